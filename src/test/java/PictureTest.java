import java.util.ArrayList;
import java.util.Arrays;
import java.util.List;
import java.util.Random;

/** Random shields: what the program answers against what is found here by walking over their trees. */
public final class PictureTest {
    private static final int SIDE = 24;
    private static final int SHIELDS = 6000;

    private PictureTest() {
    }

    public static void main(String[] args) {
        Random chance = new Random(20261115);
        int deepest = 0;
        for (int i = 0; i < SHIELDS; ) {
            Tree.Shield tree = Tree.shield(chance, 1, i % 3 == 0 ? 10 : 60);
            List<String> words = Tree.words(tree);
            String text = Tree.text(chance, words);
            if (text.length() > 120) {
                continue;
            }
            i++;
            ToldShields shields = new ToldShields();
            Due.due("read of '" + text + "'", Due.read(shields, 1, text), words.size());
            duePicture(text, shields, new Painter().paintWhole(tree));
            dueBreaches(text, shields, tree);
            dueCounts(text, shields, tree);
            duePages(text, shields, words);
            deepest = Math.max(deepest, depth(tree));
        }
        Due.due("the depth that was reached", deepest, 3);
        differences(chance);
        Due.end();
    }

    private static void duePicture(String text, ToldShields shields, int[][] picture) {
        int[] found = new int[9];
        for (int y = 0; y < SIDE; y++) {
            int[] rows = new int[9];
            for (int x = 0; x < SIDE; x++) {
                rows[picture[y][x]] |= 1 << x;
                found[picture[y][x]]++;
            }
            for (int t = 0; t < 9; t++) {
                Due.due("row " + y + " of " + t + " in '" + text + "'", shields.row(1, y, t), rows[t]);
            }
            Due.due("cell " + y + " of '" + text + "'", shields.cell(1, 23 - y, y), picture[y][23 - y]);
        }
        for (int t = 0; t < 9; t++) {
            Due.due("cells of " + t + " in '" + text + "'", shields.cells(1, t), found[t]);
        }
    }

    private static void dueBreaches(String text, ToldShields shields, Tree.Shield tree) {
        List<Integer> breaches = new ArrayList<>();
        judge(tree, 0, breaches);
        Due.due("breaches of '" + text + "'", shields.breaches(1), breaches.size());
        for (int i = 0; i < breaches.size(); i++) {
            Due.due("breach " + i + " of '" + text + "'", shields.breach(1, i), breaches.get(i));
        }
        Due.due("breach behind the last of '" + text + "'", shields.breach(1, breaches.size()), -1);
    }

    private static String classOf(Object part) {
        int tincture = Tree.TINCTURES.indexOf(part);
        return tincture < 0 || tincture > 6 ? "none" : tincture < 2 ? "metal" : "colour";
    }

    /** Appends the breaches of a shield whose first word is at a place, and answers the place behind it. */
    private static int judge(Tree.Shield shield, int from, List<Integer> breaches) {
        int at = from + (shield.division == null ? 0 : shield.division.split(" ").length);
        boolean isOneClass = true;
        for (Object part : shield.parts) {
            isOneClass &= classOf(part).equals(classOf(shield.parts.get(0)));
            at = part instanceof Tree.Shield inner ? judge(inner, at + 1, breaches) + 1 : at + 1;
            at++; // the word and
        }
        at--;
        String ground = isOneClass ? classOf(shield.parts.get(0)) : "none";
        for (Tree.Item item : shield.items) {
            judgeCoat(item.coat, ground, at + 2, breaches);
            at += 3;
            if (item.charged != null) {
                judgeCoat(item.charged.coat, classOf(item.coat), at + 4, breaches);
                at += 5;
            }
        }
        return at;
    }

    private static void judgeCoat(String coat, String ground, int word, List<Integer> breaches) {
        if (!ground.equals("none") && classOf(coat).equals(ground)) {
            breaches.add(word);
        }
    }

    private static void dueCounts(String text, ToldShields shields, Tree.Shield tree) {
        int[] counts = new int[3];
        sum(tree, counts);
        for (int what = 0; what < 3; what++) {
            Due.due("count " + what + " of '" + text + "'", shields.count(1, what), counts[what]);
        }
        Due.due("count 3 of '" + text + "'", shields.count(1, 3), depth(tree));
    }

    private static void sum(Tree.Shield shield, int[] counts) {
        counts[0]++;
        for (Object part : shield.parts) {
            if (part instanceof Tree.Shield inner) {
                sum(inner, counts);
            }
        }
        for (Tree.Item item : shield.items) {
            counts[1]++;
            counts[2] += item.number + (item.charged == null ? 0 : item.charged.number);
        }
    }

    private static int depth(Tree.Shield shield) {
        int below = 0;
        for (Object part : shield.parts) {
            if (part instanceof Tree.Shield inner) {
                below = Math.max(below, depth(inner));
            }
        }
        return 1 + below;
    }

    private static void duePages(String text, ToldShields shields, List<String> words) {
        String plain = String.join(" ", words);
        Due.due("tell of '" + text + "'", shields.tell(1), plain.length());
        // Few characters are asked for, so that no object is called more than 512 times.
        for (int p = 0; p < plain.length(); p += 7) {
            Due.due("charAt(" + p + ") of '" + plain + "'", shields.charAt(p), plain.charAt(p));
        }
        List<String> turned = new ArrayList<>();
        List<String> pairs = List.of("or", "argent", "gules", "azure", "vert", "sable");
        for (String word : words) {
            int i = pairs.indexOf(word);
            turned.add(i < 0 ? word : pairs.get(i % 2 == 0 ? i + 1 : i - 1));
        }
        String other = String.join(" ", turned);
        Due.due("turned of '" + text + "'", shields.turned(1), other.length());
        for (int p = 0; p < other.length(); p += 7) {
            Due.due("charAt(" + p + ") of '" + other + "'", shields.charAt(p), other.charAt(p));
        }
    }

    /** Three shields of one object, read over one another with faults between. */
    private static void differences(Random chance) {
        for (int i = 0; i < 1000; i++) {
            ToldShields shields = new ToldShields();
            int[][][] pictures = new int[3][][];
            List<List<String>> told = new ArrayList<>(List.of(List.of(), List.of(), List.of()));
            int calls = 0;
            while (calls < 300) {
                Tree.Shield tree = Tree.shield(chance, 1, 20);
                List<String> words = Tree.words(tree);
                boolean isWrong = chance.nextInt(3) == 0;
                String text = Tree.text(chance, words) + (isWrong ? "!" : "");
                if (text.length() > 120) {
                    continue;
                }
                int s = chance.nextInt(3);
                calls += text.length() + 20;
                int want = isWrong ? -1 - words.size() : words.size();
                Due.due("read of '" + text + "'", Due.read(shields, s, text), want);
                if (!isWrong) {
                    pictures[s] = new Painter().paintWhole(tree);
                    told.set(s, words);
                }
                dueCompared(shields, pictures, told);
            }
        }
    }

    private static void dueCompared(ToldShields shields, int[][][] pictures, List<List<String>> told) {
        for (int one = 0; one < 3; one++) {
            for (int other = 0; other < 3; other++) {
                int a = one;
                int b = other;
                if (pictures[a] == null || pictures[b] == null) {
                    Due.dueThrow("differ, not read", IllegalStateException.class, () -> shields.differ(a, b));
                    continue;
                }
                int differ = 0;
                for (int i = 0; i < SIDE * SIDE; i++) {
                    differ += pictures[a][i / SIDE][i % SIDE] != pictures[b][i / SIDE][i % SIDE] ? 1 : 0;
                }
                String both = told.get(a) + ", " + told.get(b);
                Due.due("differ of " + both, shields.differ(a, b), differ);
                Due.due("same of " + both, shields.same(a, b), told.get(a).equals(told.get(b)));
            }
        }
    }

    /** Paints box by box over what is there, only where a mask lets it. */
    private static final class Painter {
        private final int[][] picture = new int[SIDE][SIDE];

        int[][] paintWhole(Tree.Shield tree) {
            boolean[][] mask = new boolean[SIDE][SIDE];
            for (boolean[] row : mask) {
                Arrays.fill(row, true);
            }
            paint(tree, new Box(0, 0, SIDE, SIDE), mask);
            return picture;
        }

        private record Box(int left, int top, int w, int h) {
        }

        private void paint(Object part, Box box, boolean[][] mask) {
            if (part instanceof Tree.Shield shield) {
                paintField(shield, box, mask);
                int[][] field = new int[SIDE][];
                for (int y = 0; y < SIDE; y++) {
                    field[y] = picture[y].clone();
                }
                for (Tree.Item item : shield.items) {
                    paintItem(shield, item, field, box, mask);
                }
                return;
            }
            for (int y = box.top; y < box.top + box.h; y++) {
                for (int x = box.left; x < box.left + box.w; x++) {
                    if (mask[y][x]) {
                        picture[y][x] = Tree.TINCTURES.indexOf(part);
                    }
                }
            }
        }

        private void paintField(Tree.Shield shield, Box box, boolean[][] mask) {
            Object one = shield.parts.get(0);
            Object two = shield.parts.get(shield.parts.size() - 1);
            int w = box.w / 2;
            int h = box.h / 2;
            if (shield.division == null) {
                paint(one, box, mask);
            } else if (shield.division.equals("per pale")) {
                paint(one, new Box(box.left, box.top, w, box.h), mask);
                paint(two, new Box(box.left + w, box.top, box.w - w, box.h), mask);
            } else if (shield.division.equals("per fess")) {
                paint(one, new Box(box.left, box.top, box.w, h), mask);
                paint(two, new Box(box.left, box.top + h, box.w, box.h - h), mask);
            } else if (shield.division.equals("quarterly")) {
                paint(one, new Box(box.left, box.top, w, h), mask);
                paint(two, new Box(box.left + w, box.top, box.w - w, h), mask);
                paint(two, new Box(box.left, box.top + h, w, box.h - h), mask);
                paint(one, new Box(box.left + w, box.top + h, box.w - w, box.h - h), mask);
            } else {
                paint(one, box, bendMask(box, mask, true));
                paint(two, box, bendMask(box, mask, false));
            }
        }

        private boolean[][] bendMask(Box box, boolean[][] mask, boolean isFirst) {
            boolean[][] part = new boolean[SIDE][SIDE];
            for (int y = 0; y < box.h; y++) {
                for (int x = 0; x < box.w; x++) {
                    boolean isFirstCell = x * box.h >= y * box.w;
                    part[box.top + y][box.left + x] = mask[box.top + y][box.left + x] && isFirstCell == isFirst;
                }
            }
            return part;
        }

        private void paintItem(Tree.Shield shield, Tree.Item item, int[][] field, Box box, boolean[][] mask) {
            boolean[][] cells = new boolean[SIDE][SIDE];
            if (item.ordinary == null) {
                markField(item, box, cells);
            } else {
                markOrdinary(item.ordinary, box, cells);
            }
            dye(shield, item.coat, cells, field, mask);
            if (item.charged != null) {
                boolean[][] charged = new boolean[SIDE][SIDE];
                markCharged(item.ordinary, item.charged, box, charged);
                dye(shield, item.charged.coat, charged, field, mask);
            }
        }

        private void dye(Tree.Shield shield, String coat, boolean[][] cells, int[][] field, boolean[][] mask) {
            for (int y = 0; y < SIDE; y++) {
                for (int x = 0; x < SIDE; x++) {
                    if (!cells[y][x] || !mask[y][x]) {
                        continue;
                    }
                    if (coat.equals(Tree.COUNTERCHANGED)) {
                        int one = Tree.TINCTURES.indexOf(shield.parts.get(0));
                        int two = Tree.TINCTURES.indexOf(shield.parts.get(1));
                        picture[y][x] = one + two - field[y][x];
                    } else {
                        picture[y][x] = Tree.TINCTURES.indexOf(coat);
                    }
                }
            }
        }

        private static void markOrdinary(String ordinary, Box box, boolean[][] cells) {
            int w = box.w;
            int h = box.h;
            for (int y = 0; y < h; y++) {
                for (int x = 0; x < w; x++) {
                    boolean fess = h / 3 <= y && y < h - h / 3;
                    boolean pale = w / 3 <= x && x < w - w / 3;
                    boolean bend = 3 * Math.abs(x * h - y * w) <= w * h / 2;
                    boolean other = 3 * Math.abs((w - 1 - x) * h - y * w) <= w * h / 2;
                    int u = Math.abs(2 * x + 1 - w);
                    int below = 2 * y * w - u * h - w * h / 2;
                    cells[box.top + y][box.left + x] = switch (ordinary) {
                        case "chief" -> y < h / 3;
                        case "fess" -> fess;
                        case "pale" -> pale;
                        case "bend" -> bend;
                        case "cross" -> fess || pale;
                        case "saltire" -> bend || other;
                        case "chevron" -> 0 <= below && below < w * h;
                        default -> x < w / 8 + 1 || x >= w - w / 8 - 1 || y < h / 8 + 1 || y >= h - h / 8 - 1;
                    };
                }
            }
        }

        private static void markField(Tree.Item item, Box box, boolean[][] cells) {
            int[][] rows = {{1}, {2}, {2, 1}, {2, 2}, {2, 2, 1}, {3, 2, 1}};
            markRows(item.charge, rows[item.number - 1], box, cells);
        }

        private static void markCharged(String ordinary, Tree.Item charges, Box box, boolean[][] cells) {
            int third = box.h / 3;
            int side = box.w / 3;
            if (ordinary.equals("chief")) {
                markRows(charges.charge, new int[] {charges.number}, new Box(box.left, box.top, box.w, third), cells);
            } else if (ordinary.equals("fess")) {
                Box fess = new Box(box.left, box.top + third, box.w, box.h - third - third);
                markRows(charges.charge, new int[] {charges.number}, fess, cells);
            } else {
                int[] rows = new int[charges.number];
                Arrays.fill(rows, 1);
                markRows(charges.charge, rows, new Box(box.left + side, box.top, box.w - side - side, box.h), cells);
            }
        }

        private static void markRows(String charge, int[] rows, Box box, boolean[][] cells) {
            for (int r = 0; r < rows.length; r++) {
                int top = r * box.h / rows.length;
                int h = (r + 1) * box.h / rows.length - top;
                for (int j = 0; j < rows[r]; j++) {
                    int left = j * box.w / rows[r];
                    int w = (j + 1) * box.w / rows[r] - left;
                    markCharge(charge, new Box(box.left + left, box.top + top, w, h), cells);
                }
            }
        }

        private static void markCharge(String charge, Box box, boolean[][] cells) {
            int w = box.w;
            int h = box.h;
            for (int y = 0; y < h; y++) {
                for (int x = 0; x < w; x++) {
                    int u = Math.abs(2 * x + 1 - w);
                    int v = Math.abs(2 * y + 1 - h);
                    cells[box.top + y][box.left + x] = switch (charge) {
                        case "roundel" -> 16 * (u * u * h * h + v * v * w * w) <= 9 * w * w * h * h;
                        case "billet" -> 2 * u <= w && 4 * v <= 3 * h;
                        default -> 4 * (u * h + v * w) <= 3 * w * h;
                    };
                }
            }
        }
    }
}
