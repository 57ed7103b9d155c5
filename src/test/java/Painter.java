import java.util.Arrays;

/** Paints box by box over what is there, only where a mask lets it. */
final class Painter {
    static final int SIDE = 24;

    private final int[][] picture = new int[SIDE][SIDE];

    int[][] paintWhole(Tree.Shield tree) {
        boolean[][] mask = new boolean[SIDE][SIDE];
        for (boolean[] row : mask) {
            Arrays.fill(row, true);
        }
        paint(tree, new Box(0, 0, SIDE, SIDE), mask);
        return picture;
    }

    private record Box(int left, int top, int w, int h) {
    }

    private void paint(Object part, Box box, boolean[][] mask) {
        if (part instanceof Tree.Shield shield) {
            paintField(shield, box, mask);
            int[][] field = new int[SIDE][];
            for (int y = 0; y < SIDE; y++) {
                field[y] = picture[y].clone();
            }
            for (Tree.Item item : shield.items) {
                paintItem(shield, item, field, box, mask);
            }
            return;
        }
        for (int y = box.top; y < box.top + box.h; y++) {
            for (int x = box.left; x < box.left + box.w; x++) {
                if (mask[y][x]) {
                    picture[y][x] = Tree.TINCTURES.indexOf(part);
                }
            }
        }
    }

    private void paintField(Tree.Shield shield, Box box, boolean[][] mask) {
        Object one = shield.parts.get(0);
        Object two = shield.parts.get(shield.parts.size() - 1);
        int w = box.w / 2;
        int h = box.h / 2;
        if (shield.division == null) {
            paint(one, box, mask);
        } else if (shield.division.equals("per pale")) {
            paint(one, new Box(box.left, box.top, w, box.h), mask);
            paint(two, new Box(box.left + w, box.top, box.w - w, box.h), mask);
        } else if (shield.division.equals("per fess")) {
            paint(one, new Box(box.left, box.top, box.w, h), mask);
            paint(two, new Box(box.left, box.top + h, box.w, box.h - h), mask);
        } else if (shield.division.equals("quarterly")) {
            paint(one, new Box(box.left, box.top, w, h), mask);
            paint(two, new Box(box.left + w, box.top, box.w - w, h), mask);
            paint(two, new Box(box.left, box.top + h, w, box.h - h), mask);
            paint(one, new Box(box.left + w, box.top + h, box.w - w, box.h - h), mask);
        } else {
            paint(one, box, bendMask(box, mask, true));
            paint(two, box, bendMask(box, mask, false));
        }
    }

    private boolean[][] bendMask(Box box, boolean[][] mask, boolean isFirst) {
        boolean[][] part = new boolean[SIDE][SIDE];
        for (int y = 0; y < box.h; y++) {
            for (int x = 0; x < box.w; x++) {
                boolean isFirstCell = x * box.h >= y * box.w;
                part[box.top + y][box.left + x] = mask[box.top + y][box.left + x] && isFirstCell == isFirst;
            }
        }
        return part;
    }

    private void paintItem(Tree.Shield shield, Tree.Item item, int[][] field, Box box, boolean[][] mask) {
        boolean[][] cells = new boolean[SIDE][SIDE];
        if (item.ordinary == null) {
            markField(item, box, cells);
        } else {
            markOrdinary(item.ordinary, box, cells);
        }
        dye(shield, item.coat, cells, field, mask);
        if (item.charged != null) {
            boolean[][] charged = new boolean[SIDE][SIDE];
            markCharged(item.ordinary, item.charged, box, charged);
            dye(shield, item.charged.coat, charged, field, mask);
        }
    }

    private void dye(Tree.Shield shield, String coat, boolean[][] cells, int[][] field, boolean[][] mask) {
        for (int y = 0; y < SIDE; y++) {
            for (int x = 0; x < SIDE; x++) {
                if (!cells[y][x] || !mask[y][x]) {
                    continue;
                }
                if (coat.equals(Tree.COUNTERCHANGED)) {
                    int one = Tree.TINCTURES.indexOf(shield.parts.get(0));
                    int two = Tree.TINCTURES.indexOf(shield.parts.get(1));
                    picture[y][x] = one + two - field[y][x];
                } else {
                    picture[y][x] = Tree.TINCTURES.indexOf(coat);
                }
            }
        }
    }

    private static void markOrdinary(String ordinary, Box box, boolean[][] cells) {
        int w = box.w;
        int h = box.h;
        for (int y = 0; y < h; y++) {
            for (int x = 0; x < w; x++) {
                boolean fess = h / 3 <= y && y < h - h / 3;
                boolean pale = w / 3 <= x && x < w - w / 3;
                boolean bend = 3 * Math.abs(x * h - y * w) <= w * h / 2;
                boolean other = 3 * Math.abs((w - 1 - x) * h - y * w) <= w * h / 2;
                int u = Math.abs(2 * x + 1 - w);
                int below = 2 * y * w - u * h - w * h / 2;
                cells[box.top + y][box.left + x] = switch (ordinary) {
                    case "chief" -> y < h / 3;
                    case "fess" -> fess;
                    case "pale" -> pale;
                    case "bend" -> bend;
                    case "cross" -> fess || pale;
                    case "saltire" -> bend || other;
                    case "chevron" -> 0 <= below && below < w * h;
                    default -> x < w / 8 + 1 || x >= w - w / 8 - 1 || y < h / 8 + 1 || y >= h - h / 8 - 1;
                };
            }
        }
    }

    private static void markField(Tree.Item item, Box box, boolean[][] cells) {
        int[][] rows = {{1}, {2}, {2, 1}, {2, 2}, {2, 2, 1}, {3, 2, 1}};
        markRows(item.charge, rows[item.number - 1], box, cells);
    }

    private static void markCharged(String ordinary, Tree.Item charges, Box box, boolean[][] cells) {
        int third = box.h / 3;
        int side = box.w / 3;
        if (ordinary.equals("chief")) {
            markRows(charges.charge, new int[] {charges.number}, new Box(box.left, box.top, box.w, third), cells);
        } else if (ordinary.equals("fess")) {
            Box fess = new Box(box.left, box.top + third, box.w, box.h - third - third);
            markRows(charges.charge, new int[] {charges.number}, fess, cells);
        } else {
            int[] rows = new int[charges.number];
            Arrays.fill(rows, 1);
            markRows(charges.charge, rows, new Box(box.left + side, box.top, box.w - side - side, box.h), cells);
        }
    }

    private static void markRows(String charge, int[] rows, Box box, boolean[][] cells) {
        for (int r = 0; r < rows.length; r++) {
            int top = r * box.h / rows.length;
            int h = (r + 1) * box.h / rows.length - top;
            for (int j = 0; j < rows[r]; j++) {
                int left = j * box.w / rows[r];
                int w = (j + 1) * box.w / rows[r] - left;
                markCharge(charge, new Box(box.left + left, box.top + top, w, h), cells);
            }
        }
    }

    private static void markCharge(String charge, Box box, boolean[][] cells) {
        int w = box.w;
        int h = box.h;
        for (int y = 0; y < h; y++) {
            for (int x = 0; x < w; x++) {
                int u = Math.abs(2 * x + 1 - w);
                int v = Math.abs(2 * y + 1 - h);
                cells[box.top + y][box.left + x] = switch (charge) {
                    case "roundel" -> 16 * (u * u * h * h + v * v * w * w) <= 9 * w * w * h * h;
                    case "billet" -> 2 * u <= w && 4 * v <= 3 * h;
                    default -> 4 * (u * h + v * w) <= 3 * w * h;
                };
            }
        }
    }
}
