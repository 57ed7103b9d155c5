/** Painting: what each shape looks like, drawn out, in boxes of 24, 12 and 6 cells. */
public final class DrawingTest {
    private static final int GULES = 2;
    private static final int ALL = Due.ALL;

    private static final Frame QUARTER = new Frame("quarterly (", ") and sable", 12, 12);
    private static final Frame BAND = new Frame("per fess (per fess (", ") and sable) and sable", 24, 6);
    private static final Frame TALL = new Frame("quarterly (per pale (", ") and sable) and sable", 6, 12);
    private static final Frame BROAD = new Frame("quarterly (per fess (", ") and sable) and sable", 12, 6);
    private static final Frame SMALL = new Frame("quarterly (quarterly (", ") and sable) and sable", 6, 6);

    /** The words around a shield that give it a box of w by h cells in the upper left. */
    private record Frame(String before, String after, int w, int h) {
    }

    private DrawingTest() {
    }

    public static void main(String[] args) {
        wholePicture();
        plainField();
        perPale();
        perFess();
        quarterly();
        perBend();
        plainParts();
        shieldsInParts();
        shieldsInNarrowParts();
        itemsOverOneAnother();
        itemsOverParts();
        counterchanged();
        counterchangedOverItems();
        chief();
        fess();
        pale();
        bend();
        cross();
        saltire();
        chevron();
        bordure();
        roundel();
        billet();
        lozenge();
        twoCharges();
        threeCharges();
        fourCharges();
        fiveCharges();
        sixCharges();
        wholeDivisions();
        chargedChief();
        chargedFess();
        chargedPale();
        Due.end();
    }

    private static int bits(int from, int to) {
        return Due.bits(from, to);
    }

    /** That the cells of gules in a shield's box are those that are drawn as #. */
    private static void dueDrawing(Frame frame, String shield, String... rows) {
        String text = frame.before + shield + frame.after;
        ToldShields shields = Due.told(text);
        Due.due("rows drawn of '" + text + "'", rows.length, frame.h);
        for (int y = 0; y < rows.length; y++) {
            StringBuilder row = new StringBuilder();
            for (int x = 0; x < frame.w; x++) {
                row.append(shields.cell(0, x, y) == GULES ? '#' : '.');
            }
            Due.due("row " + y + " of '" + text + "'", row.toString(), rows[y]);
        }
    }

    /** The sums of 2^x over the cells of gules in some rows of the whole picture. */
    private static void dueRows(String text, int[] ys, int[] wants) {
        ToldShields shields = Due.told(text);
        for (int i = 0; i < ys.length; i++) {
            Due.due("row " + ys[i] + " of '" + text + "'", shields.row(0, ys[i], GULES), wants[i]);
        }
    }

    private static void wholePicture() {
        Due.sentence("Terms", "The picture has 24 by 24 CELLS, x, y from 0 on at the left, at the top");
        ToldShields shields =
                Due.told("quarterly (per pale or and argent) and (per pale gules and azure) a chief vert");
        Due.due("the upper left", shields.cell(0, 0, 0), 4);
        Due.due("the upper right", shields.cell(0, 23, 0), 4);
        Due.due("the left below the chief", shields.cell(0, 0, 8), 0);
        Due.due("the right below the chief", shields.cell(0, 23, 8), 3);
        Due.due("the lower left", shields.cell(0, 0, 23), 2);
        Due.due("the lower right", shields.cell(0, 23, 23), 1);
        Due.due("all cells", shields.cells(0, 0) + shields.cells(0, 1) + shields.cells(0, 2) + shields.cells(0, 3)
                + shields.cells(0, 4), 24 * 24);
    }

    private static void plainField() {
        Due.sentence("Terms", "First its field: a tincture");
        dueRows("gules", new int[] {0, 11, 23}, new int[] {ALL, ALL, ALL});
        dueDrawing(SMALL, "gules", "######", "######", "######", "######", "######", "######");
    }

    private static void perPale() {
        Due.sentence("Terms", "PER PALE: the first part in the left box with w / 2 columns, the second in the rest");
        dueRows("per pale or and gules", new int[] {0, 23}, new int[] {bits(12, 23), bits(12, 23)});
        dueRows("per pale gules and or", new int[] {0, 23}, new int[] {bits(0, 11), bits(0, 11)});
        dueDrawing(SMALL, "per pale or and gules", "...###", "...###", "...###", "...###", "...###", "...###");
        dueDrawing(BROAD, "per pale or and gules", "......######", "......######", "......######", "......######",
                "......######", "......######");
    }

    private static void perFess() {
        Due.sentence("Terms", "PER FESS: likewise the upper h / 2 rows, and the rest");
        dueRows("per fess or and gules", new int[] {0, 11, 12, 23}, new int[] {0, 0, ALL, ALL});
        dueDrawing(SMALL, "per fess or and gules", "......", "......", "......", "######", "######", "######");
        dueDrawing(BROAD, "per fess gules and or", "############", "############", "############", "............",
                "............", "............");
    }

    private static void quarterly() {
        Due.sentence("Terms", "the first part in the upper left and the lower right one, the second in the two others");
        dueRows("quarterly or and gules", new int[] {0, 11, 12, 23},
                new int[] {bits(12, 23), bits(12, 23), bits(0, 11), bits(0, 11)});
        dueDrawing(SMALL, "quarterly or and gules", "...###", "...###", "...###", "###...", "###...", "###...");
        dueDrawing(SMALL, "quarterly gules and or", "###...", "###...", "###...", "...###", "...###", "...###");
    }

    private static void perBend() {
        Due.sentence("Terms", "PER BEND: .. the first where x * h >= y * w, the second elsewhere");
        dueRows("per bend or and gules", new int[] {0, 1, 23}, new int[] {0, 1, bits(0, 22)});
        dueDrawing(SMALL, "per bend or and gules", "......", "#.....", "##....", "###...", "####..", "#####.");
        dueDrawing(SMALL, "per bend gules and or", "######", ".#####", "..####", "...###", "....##", ".....#");
        dueDrawing(BROAD, "per bend or and gules", "............", "##..........", "####........", "######......",
                "########....", "##########..");
        dueDrawing(TALL, "per bend or and gules", "......", "#.....", "#.....", "##....", "##....", "###...",
                "###...", "####..", "####..", "#####.", "#####.", "######");
    }

    private static void plainParts() {
        Due.sentence("Terms", "(A part that is a tincture is that in all its cells.)");
        for (String division : Tree.DIVISIONS) {
            dueRows(division + " gules and gules", new int[] {0, 11, 12, 23}, new int[] {ALL, ALL, ALL, ALL});
        }
    }

    private static void shieldsInParts() {
        Due.sentence("Terms", "A shield is painted in a BOX of w by h cells; x, y being counted within it");
        String inner = "(or a chief gules)";
        dueRows("per pale " + inner + " and vert", new int[] {0, 7, 8}, new int[] {bits(0, 11), bits(0, 11), 0});
        dueRows("per pale vert and " + inner, new int[] {0, 7, 8}, new int[] {bits(12, 23), bits(12, 23), 0});
        dueRows("per fess " + inner + " and vert", new int[] {0, 3, 4, 12}, new int[] {ALL, ALL, 0, 0});
        dueRows("per fess vert and " + inner, new int[] {0, 11, 12, 15, 16}, new int[] {0, 0, ALL, ALL, 0});
        dueRows("quarterly " + inner + " and vert", new int[] {0, 3, 4, 12, 15, 16},
                new int[] {bits(0, 11), bits(0, 11), 0, bits(12, 23), bits(12, 23), 0});
        dueRows("quarterly vert and " + inner, new int[] {0, 3, 4, 12, 15, 16},
                new int[] {bits(12, 23), bits(12, 23), 0, bits(0, 11), bits(0, 11), 0});
        dueRows("per bend " + inner + " and vert", new int[] {0, 7, 8}, new int[] {ALL, bits(7, 23), 0});
        dueRows("per bend vert and " + inner, new int[] {0, 7, 8}, new int[] {0, bits(0, 6), 0});
        dueRows("per bend (or a fess gules) and (or a pale gules)", new int[] {0, 8, 15, 20},
                new int[] {0, bits(8, 23), bits(8, 23), bits(8, 15)});
    }

    private static void shieldsInNarrowParts() {
        Due.sentence("Terms", "x, y being counted within it");
        String inner = "(or a pale gules)";
        dueRows("per pale " + inner + " and vert", new int[] {0, 23}, new int[] {bits(4, 7), bits(4, 7)});
        dueRows("per pale vert and " + inner, new int[] {0, 23}, new int[] {bits(16, 19), bits(16, 19)});
        dueRows("per fess " + inner + " and vert", new int[] {0, 11, 12}, new int[] {bits(8, 15), bits(8, 15), 0});
        dueRows("per fess vert and " + inner, new int[] {11, 12, 23}, new int[] {0, bits(8, 15), bits(8, 15)});
        dueRows("quarterly " + inner + " and vert", new int[] {0, 11, 12, 23},
                new int[] {bits(4, 7), bits(4, 7), bits(16, 19), bits(16, 19)});
        dueRows("quarterly vert and " + inner, new int[] {0, 11, 12, 23},
                new int[] {bits(16, 19), bits(16, 19), bits(4, 7), bits(4, 7)});
        dueRows("per pale vert and (per pale vert and " + inner + ")", new int[] {0, 23},
                new int[] {bits(20, 21), bits(20, 21)});
    }

    private static void itemsOverOneAnother() {
        Due.sentence("Terms", "Then its items one after the other, on what is there");
        dueRows("or a fess gules a pale vert", new int[] {0, 8}, new int[] {0, bits(0, 7) + bits(16, 23)});
        dueRows("or a pale vert a fess gules", new int[] {0, 8}, new int[] {0, ALL});
        dueRows("or a fess vert charged with a billet gules", new int[] {8, 9, 14},
                new int[] {0, bits(6, 17), bits(6, 17)});
        dueRows("or a fess vert charged with a billet gules a pale or", new int[] {9},
                new int[] {bits(6, 7) + bits(16, 17)});
        dueRows("or a bend vert a bend vert a bend vert a bordure gules", new int[] {0, 4},
                new int[] {ALL, bits(0, 3) + bits(20, 23)});
        String charged = " a pale or charged with a billet or";
        dueRows("or" + charged.repeat(3) + " a fess gules", new int[] {7, 8}, new int[] {0, ALL});
        dueRows("gules" + charged.repeat(3) + " a fess or", new int[] {7, 8}, new int[] {bits(0, 7) + bits(16, 23), 0});
    }

    private static void itemsOverParts() {
        Due.sentence("Terms", "First its field .. Then its items");
        dueRows("per pale (or a chief gules) and vert a fess gules", new int[] {7, 8}, new int[] {bits(0, 11), ALL});
        dueRows("per pale (or a chief vert) and vert a pale gules", new int[] {0, 8},
                new int[] {bits(8, 15), bits(8, 15)});
        dueRows("per bend (or a chief gules) and vert a chief or", new int[] {0, 7}, new int[] {0, 0});
    }

    private static void counterchanged() {
        Due.sentence("Terms", "that of the field's two tinctures which the field does not have in this cell");
        dueRows("per pale or and gules a fess counterchanged", new int[] {0, 8}, new int[] {bits(12, 23), bits(0, 11)});
        dueRows("per pale gules and or a fess counterchanged", new int[] {0, 8}, new int[] {bits(0, 11), bits(12, 23)});
        dueRows("per fess or and gules a pale counterchanged", new int[] {0, 12},
                new int[] {bits(8, 15), bits(0, 7) + bits(16, 23)});
        dueRows("quarterly or and gules a billet counterchanged", new int[] {0, 3, 20},
                new int[] {bits(12, 23), bits(6, 11) + bits(18, 23), bits(0, 5) + bits(12, 17)});
        dueDrawing(SMALL, "per bend or and gules a pale counterchanged",
                "..##..", "#.##..", "####..", "##.#..", "##....", "##..#.");
        dueRows("per pale gules and gules a fess counterchanged", new int[] {0, 8}, new int[] {ALL, ALL});
        // In the box of an inner shield it is the field of that shield that counts.
        dueRows("per pale (per pale or and gules a fess counterchanged) and gules", new int[] {0, 8},
                new int[] {bits(6, 23), bits(0, 5) + bits(12, 23)});
    }

    private static void counterchangedOverItems() {
        Due.sentence("Terms", "counterchanged: .. which the field does not have in this cell");
        dueRows("per pale or and gules a fess vert a chief or a pale counterchanged", new int[] {0, 8, 16},
                new int[] {bits(8, 11), bits(8, 11), bits(8, 11) + bits(16, 23)});
        dueRows("per pale or and gules a billet counterchanged a billet counterchanged", new int[] {3},
                new int[] {bits(6, 11) + bits(18, 23)});
    }

    private static void chief() {
        Due.sentence("Terms", "CHIEF y < h / 3");
        dueRows("or a chief gules", new int[] {0, 7, 8}, new int[] {ALL, ALL, 0});
        dueDrawing(SMALL, "or a chief gules",
                "######", "######", "......", "......", "......", "......");
        dueDrawing(BROAD, "or a chief gules",
                "############", "############", "............", "............", "............", "............");
        dueDrawing(TALL, "or a chief gules",
                "######", "######", "######", "######", "......", "......", "......", "......", "......", "......",
                "......", "......");
    }

    private static void fess() {
        Due.sentence("Terms", "FESS h / 3 <= y < h - h / 3");
        dueRows("or a fess gules", new int[] {7, 8, 15, 16}, new int[] {0, ALL, ALL, 0});
        dueDrawing(SMALL, "or a fess gules",
                "......", "......", "######", "######", "......", "......");
        dueDrawing(BROAD, "or a fess gules",
                "............", "............", "############", "############", "............", "............");
        dueDrawing(TALL, "or a fess gules",
                "......", "......", "......", "......", "######", "######", "######", "######", "......", "......",
                "......", "......");
    }

    private static void pale() {
        Due.sentence("Terms", "PALE w / 3 <= x < w - w / 3");
        dueRows("or a pale gules", new int[] {0, 23}, new int[] {bits(8, 15), bits(8, 15)});
        dueDrawing(SMALL, "or a pale gules",
                "..##..", "..##..", "..##..", "..##..", "..##..", "..##..");
        dueDrawing(BROAD, "or a pale gules",
                "....####....", "....####....", "....####....", "....####....", "....####....", "....####....");
        dueDrawing(TALL, "or a pale gules",
                "..##..", "..##..", "..##..", "..##..", "..##..", "..##..", "..##..", "..##..", "..##..", "..##..",
                "..##..", "..##..");
    }

    private static void bend() {
        Due.sentence("Terms", "BEND 3 * |x * h - y * w| <= w * h / 2");
        dueRows("or a bend gules", new int[] {0, 12, 23}, new int[] {bits(0, 4), bits(8, 16), bits(19, 23)});
        dueDrawing(SMALL, "or a bend gules",
                "##....", "###...", ".###..", "..###.", "...###", "....##");
        dueDrawing(BROAD, "or a bend gules",
                "###.........", "#####.......", "..#####.....", "....#####...", "......#####.", "........####");
        dueDrawing(TALL, "or a bend gules",
                "##....", "##....", "###...", ".##...", ".###..", "..##..", "..###.", "...##.", "...###", "....##",
                "....##", ".....#");
        dueDrawing(BAND, "or a bend gules",
                "#####...................", "#########...............", "....#########...........",
                "........#########.......", "............#########...", "................########");
    }

    private static void cross() {
        Due.sentence("Terms", "CROSS those of fess or pale");
        dueRows("or a cross gules", new int[] {0, 8, 16}, new int[] {bits(8, 15), ALL, bits(8, 15)});
        dueDrawing(SMALL, "or a cross gules",
                "..##..", "..##..", "######", "######", "..##..", "..##..");
        dueDrawing(BROAD, "or a cross gules",
                "....####....", "....####....", "############", "############", "....####....", "....####....");
        dueDrawing(TALL, "or a cross gules",
                "..##..", "..##..", "..##..", "..##..", "######", "######", "######", "######", "..##..", "..##..",
                "..##..", "..##..");
    }

    private static void saltire() {
        Due.sentence("Terms", "SALTIRE those of bend, or 3 * |(w - 1 - x) * h - y * w| <= w * h / 2");
        dueRows("or a saltire gules", new int[] {0, 11}, new int[] {bits(0, 4) + bits(19, 23), bits(7, 16)});
        dueDrawing(SMALL, "or a saltire gules",
                "##..##", "######", ".####.", ".####.", "######", "##..##");
        dueDrawing(BROAD, "or a saltire gules",
                "###......###", "#####..#####", "..########..", "...######...", ".##########.", "####....####");
        dueDrawing(TALL, "or a saltire gules",
                "##..##", "##..##", "######", ".####.", ".####.", "..##..", ".####.", ".####.", "######", "##..##",
                "##..##", "#....#");
        dueDrawing(BAND, "or a saltire gules",
                "#####..............#####", "#########......#########", "....################....",
                ".......##########.......", "...##################...", "########........########");
    }

    private static void chevron() {
        Due.sentence("Terms", "CHEVRON: with u = |2 * x + 1 - w|, 0 <= 2 * y * w - u * h - w * h / 2 < w * h");
        dueRows("or a chevron gules", new int[] {6, 7, 17, 23},
                new int[] {0, bits(11, 12), bits(1, 22), bits(0, 6) + bits(17, 23)});
        dueDrawing(SMALL, "or a chevron gules",
                "......", "......", "..##..", ".####.", "######", "##..##");
        dueDrawing(BROAD, "or a chevron gules",
                "............", "............", ".....##.....", "...######...", ".##########.", "#####..#####");
        dueDrawing(TALL, "or a chevron gules",
                "......", "......", "......", "......", "..##..", "..##..", ".####.", ".####.", "######", "######",
                "##..##", "##..##");
        dueDrawing(BAND, "or a chevron gules",
                "........................", "........................", "..........####..........",
                "......############......", "..####################..", "##########....##########");
    }

    private static void bordure() {
        Due.sentence("Terms", "BORDURE: x < w / 8 + 1, or x >= w - w / 8 - 1, or y < h / 8 + 1, or y >= h - h / 8 - 1");
        dueRows("or a bordure gules", new int[] {3, 4, 19, 20},
                new int[] {ALL, bits(0, 3) + bits(20, 23), bits(0, 3) + bits(20, 23), ALL});
        dueDrawing(SMALL, "or a bordure gules",
                "######", "#....#", "#....#", "#....#", "#....#", "######");
        dueDrawing(BROAD, "or a bordure gules",
                "############", "##........##", "##........##", "##........##", "##........##", "############");
        dueDrawing(TALL, "or a bordure gules",
                "######", "######", "#....#", "#....#", "#....#", "#....#", "#....#", "#....#", "#....#", "#....#",
                "######", "######");
    }

    private static void roundel() {
        Due.sentence("Terms", "ROUNDEL 16 * (u * u * h * h + v * v * w * w) <= 9 * w * w * h * h");
        dueRows("or a roundel gules", new int[] {2, 3, 11}, new int[] {0, bits(9, 14), bits(3, 20)});
        dueDrawing(SMALL, "or a roundel gules",
                "......", ".####.", ".####.", ".####.", ".####.", "......");
        dueDrawing(BROAD, "or a roundel gules",
                "............", "...######...", "..########..", "..########..", "...######...", "............");
        dueDrawing(TALL, "or a roundel gules",
                "......", "......", "..##..", ".####.", ".####.", ".####.", ".####.", ".####.", ".####.", "..##..",
                "......", "......");
        dueDrawing(QUARTER, "or a roundel gules",
                "............", "............", "...######...", "..########..", "..########..", "..########..",
                "..########..", "..########..", "..########..", "...######...", "............", "............");
    }

    private static void billet() {
        Due.sentence("Terms", "BILLET 2 * u <= w and 4 * v <= 3 * h");
        dueRows("or a billet gules", new int[] {2, 3, 20, 21}, new int[] {0, bits(6, 17), bits(6, 17), 0});
        dueDrawing(SMALL, "or a billet gules",
                "......", ".####.", ".####.", ".####.", ".####.", "......");
        dueDrawing(BROAD, "or a billet gules",
                "............", "...######...", "...######...", "...######...", "...######...", "............");
        dueDrawing(TALL, "or a billet gules",
                "......", ".####.", ".####.", ".####.", ".####.", ".####.", ".####.", ".####.", ".####.", ".####.",
                ".####.", "......");
        dueDrawing(QUARTER, "or a billet gules",
                "............", "...######...", "...######...", "...######...", "...######...", "...######...",
                "...######...", "...######...", "...######...", "...######...", "...######...", "............");
    }

    private static void lozenge() {
        Due.sentence("Terms", "LOZENGE 4 * (u * h + v * w) <= 3 * w * h");
        dueRows("or a lozenge gules", new int[] {2, 3, 11, 20}, new int[] {0, bits(11, 12), bits(3, 20), bits(11, 12)});
        dueDrawing(SMALL, "or a lozenge gules",
                "......", "..##..", ".####.", ".####.", "..##..", "......");
        dueDrawing(BROAD, "or a lozenge gules",
                "............", "....####....", "..########..", "..########..", "....####....", "............");
        dueDrawing(TALL, "or a lozenge gules",
                "......", "......", "..##..", "..##..", ".####.", ".####.", ".####.", ".####.", "..##..", "..##..",
                "......", "......");
        dueDrawing(QUARTER, "or a lozenge gules",
                "............", "............", ".....##.....", "....####....", "...######...", "..########..",
                "..########..", "...######...", "....####....", ".....##.....", "............", "............");
    }

    private static void twoCharges() {
        Due.sentence("Terms", "CHARGES stand in rows: .. two");
        int pair = bits(3, 8) + bits(15, 20);
        dueRows("or two billets gules", new int[] {2, 3, 20, 21}, new int[] {0, pair, pair, 0});
        dueDrawing(QUARTER, "or two billets gules",
                "............", ".####..####.", ".####..####.", ".####..####.", ".####..####.", ".####..####.",
                ".####..####.", ".####..####.", ".####..####.", ".####..####.", ".####..####.", "............");
        dueDrawing(SMALL, "or two lozenges gules",
                "......", ".#..#.", ".#..#.", ".#..#.", ".#..#.", "......");
        dueDrawing(BROAD, "or two roundels gules",
                "............", ".####..####.", ".####..####.", ".####..####.", ".####..####.", "............");
    }

    private static void threeCharges() {
        Due.sentence("Terms", "CHARGES stand in rows: .. two and one");
        int pair = bits(3, 8) + bits(15, 20);
        int one = bits(6, 17);
        dueRows("or three billets gules", new int[] {0, 1, 10, 11, 13, 22, 23},
                new int[] {0, pair, pair, 0, one, one, 0});
        dueDrawing(QUARTER, "or three billets gules",
                "............", ".####..####.", ".####..####.", ".####..####.", ".####..####.", "............",
                "............", "...######...", "...######...", "...######...", "...######...", "............");
        dueDrawing(SMALL, "or three lozenges gules",
                ".#..#.", "######", ".#..#.", "......", ".####.", "......");
        dueDrawing(BROAD, "or three roundels gules",
                "..##....##..", ".####..####.", "..##....##..", "....####....", ".##########.", "....####....");
    }

    private static void fourCharges() {
        Due.sentence("Terms", "CHARGES stand in rows: .. two and two");
        int pair = bits(3, 8) + bits(15, 20);
        dueRows("or four billets gules", new int[] {1, 10, 11, 13, 22}, new int[] {pair, pair, 0, pair, pair});
        dueDrawing(QUARTER, "or four billets gules",
                "............", ".####..####.", ".####..####.", ".####..####.", ".####..####.", "............",
                "............", ".####..####.", ".####..####.", ".####..####.", ".####..####.", "............");
        dueDrawing(SMALL, "or four lozenges gules",
                ".#..#.", "######", ".#..#.", ".#..#.", "######", ".#..#.");
        dueDrawing(BROAD, "or four roundels gules",
                "..##....##..", ".####..####.", "..##....##..", "..##....##..", ".####..####.", "..##....##..");
    }

    private static void fiveCharges() {
        Due.sentence("Terms", "CHARGES stand in rows: .. two, two and one");
        int pair = bits(3, 8) + bits(15, 20);
        int one = bits(6, 17);
        dueRows("or five billets gules", new int[] {0, 1, 6, 7, 9, 14, 17, 22},
                new int[] {0, pair, pair, 0, pair, pair, one, one});
        dueDrawing(QUARTER, "or five billets gules",
                ".####..####.", ".####..####.", ".####..####.", ".####..####.", ".####..####.", ".####..####.",
                ".####..####.", ".####..####.", "...######...", "...######...", "...######...", "...######...");
        dueDrawing(SMALL, "or five lozenges gules",
                ".#..#.", ".#..#.", ".#..#.", ".#..#.", "..##..", "..##..");
        dueDrawing(BROAD, "or five roundels gules",
                ".####..####.", ".####..####.", ".####..####.", ".####..####.", "...######...", "...######...");
    }

    private static void sixCharges() {
        Due.sentence("Terms", "CHARGES stand in rows: .. three, two and one");
        int three = bits(2, 5) + bits(10, 13) + bits(18, 21);
        dueRows("or six billets gules", new int[] {1, 9, 17},
                new int[] {three, bits(3, 8) + bits(15, 20), bits(6, 17)});
        dueDrawing(QUARTER, "or six billets gules",
                ".##..##..##.", ".##..##..##.", ".##..##..##.", ".##..##..##.", ".####..####.", ".####..####.",
                ".####..####.", ".####..####.", "...######...", "...######...", "...######...", "...######...");
        dueDrawing(SMALL, "or six lozenges gules",
                "......", "......", ".#..#.", ".#..#.", "..##..", "..##..");
        dueDrawing(BROAD, "or six roundels gules",
                ".##..##..##.", ".##..##..##.", ".####..####.", ".####..####.", "...######...", "...######...");
    }

    private static void wholeDivisions() {
        Due.sentence("Terms", "all divisions are whole");
        // Five boxes in 24 cells begin at 0, 4, 9, 14 and 19.
        int five = bits(1, 2) + bits(5, 7) + bits(10, 12) + bits(15, 17) + bits(20, 22);
        dueRows("vert a chief or charged with five billets gules", new int[] {0, 1, 6, 7},
                new int[] {0, five, five, 0});
        int one = bits(10, 13);
        dueRows("vert a pale or charged with five billets gules", new int[] {0, 3, 4, 5, 7, 8, 9, 10, 19, 20, 22, 23},
                new int[] {one, one, 0, one, one, 0, 0, one, 0, one, one, 0});
    }

    private static void chargedChief() {
        Due.sentence("Terms", "stand in one row (chief, fess)");
        int three = bits(2, 5) + bits(10, 13) + bits(18, 21);
        dueRows("vert a chief or charged with three billets gules", new int[] {0, 1, 6, 7, 9},
                new int[] {0, three, three, 0, 0});
        dueDrawing(QUARTER, "or a chief vair charged with a roundel gules",
                "............", "..########..", "..########..", "............", "............", "............",
                "............", "............", "............", "............", "............", "............");
        dueDrawing(QUARTER, "or a chief vair charged with two lozenges gules",
                "............", ".####..####.", ".####..####.", "............", "............", "............",
                "............", "............", "............", "............", "............", "............");
        dueDrawing(QUARTER, "or a chief vair charged with five billets gules",
                "####.#.##.#.", "####.#.##.#.", "####.#.##.#.", "####.#.##.#.", "............", "............",
                "............", "............", "............", "............", "............", "............");
        dueDrawing(SMALL, "or a chief vair charged with six roundels gules",
                "######", "######", "......", "......", "......", "......");
        dueDrawing(SMALL, "or a chief vair charged with four lozenges gules",
                "#..#..", "#..#..", "......", "......", "......", "......");
        dueDrawing(TALL, "or a chief vair charged with three billets gules",
                "######", "######", "######", "######", "......", "......", "......", "......", "......", "......",
                "......", "......");
    }

    private static void chargedFess() {
        Due.sentence("Terms", "stand in one row (chief, fess)");
        dueRows("vert a fess or charged with a billet gules", new int[] {1, 8, 9, 14, 15},
                new int[] {0, 0, bits(6, 17), bits(6, 17), 0});
        dueDrawing(QUARTER, "or a fess vair charged with a roundel gules",
                "............", "............", "............", "............", "............", "..########..",
                "..########..", "............", "............", "............", "............", "............");
        dueDrawing(QUARTER, "or a fess vair charged with two lozenges gules",
                "............", "............", "............", "............", "............", ".####..####.",
                ".####..####.", "............", "............", "............", "............", "............");
        dueDrawing(QUARTER, "or a fess vair charged with five billets gules",
                "............", "............", "............", "............", "####.#.##.#.", "####.#.##.#.",
                "####.#.##.#.", "####.#.##.#.", "............", "............", "............", "............");
        dueDrawing(SMALL, "or a fess vair charged with six roundels gules",
                "......", "......", "######", "######", "......", "......");
        dueDrawing(SMALL, "or a fess vair charged with four lozenges gules",
                "......", "......", "#..#..", "#..#..", "......", "......");
        dueDrawing(TALL, "or a fess vair charged with three billets gules",
                "......", "......", "......", "......", "######", "######", "######", "######", "......", "......",
                "......", "......");
    }

    private static void chargedPale() {
        Due.sentence("Terms", "or one below the other (pale: as many rows of one)");
        int one = bits(10, 13);
        dueRows("vert a pale or charged with two billets gules", new int[] {0, 1, 10, 11, 12, 13, 22, 23},
                new int[] {0, one, one, 0, 0, one, one, 0});
        dueDrawing(QUARTER, "or a pale vair charged with a roundel gules",
                "............", "............", ".....##.....", ".....##.....", ".....##.....", ".....##.....",
                ".....##.....", ".....##.....", ".....##.....", ".....##.....", "............", "............");
        dueDrawing(QUARTER, "or a pale vair charged with two lozenges gules",
                "............", ".....##.....", ".....##.....", ".....##.....", ".....##.....", "............",
                "............", ".....##.....", ".....##.....", ".....##.....", ".....##.....", "............");
        dueDrawing(QUARTER, "or a pale vair charged with five billets gules",
                ".....##.....", ".....##.....", ".....##.....", ".....##.....", ".....##.....", ".....##.....",
                ".....##.....", ".....##.....", ".....##.....", ".....##.....", ".....##.....", ".....##.....");
        dueDrawing(SMALL, "or a pale vair charged with six roundels gules",
                "..##..", "..##..", "..##..", "..##..", "..##..", "..##..");
        dueDrawing(SMALL, "or a pale vair charged with four lozenges gules",
                "..##..", "......", "......", "..##..", "......", "......");
        dueDrawing(TALL, "or a pale vair charged with three billets gules",
                "..##..", "..##..", "..##..", "..##..", "..##..", "..##..", "..##..", "..##..", "..##..", "..##..",
                "..##..", "..##..");
    }
}
