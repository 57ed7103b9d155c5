import java.util.ArrayList;
import java.util.List;

/** Judges a tree by the law of tinctures, and counts what it has. */
final class Judge {
    private Judge() {
    }

    /** The numbers of the words by which the law is broken. */
    static List<Integer> breaches(Tree.Shield tree) {
        List<Integer> breaches = new ArrayList<>();
        judge(tree, 0, breaches);
        return breaches;
    }

    private static String classOf(Object part) {
        int tincture = Tree.TINCTURES.indexOf(part);
        return tincture < 0 || tincture > 6 ? "none" : tincture < 2 ? "metal" : "colour";
    }

    /** Appends the breaches of a shield whose first word is at a place, and answers the place behind it. */
    private static int judge(Tree.Shield shield, int from, List<Integer> breaches) {
        int at = from + (shield.division == null ? 0 : shield.division.split(" ").length);
        boolean isOneClass = true;
        for (Object part : shield.parts) {
            isOneClass &= classOf(part).equals(classOf(shield.parts.get(0)));
            at = part instanceof Tree.Shield inner ? judge(inner, at + 1, breaches) + 1 : at + 1;
            at++; // the word and
        }
        at--;
        String ground = isOneClass ? classOf(shield.parts.get(0)) : "none";
        for (Tree.Item item : shield.items) {
            judgeCoat(item.coat, ground, at + 2, breaches);
            at += 3;
            if (item.charged != null) {
                judgeCoat(item.charged.coat, classOf(item.coat), at + 4, breaches);
                at += 5;
            }
        }
        return at;
    }

    private static void judgeCoat(String coat, String ground, int word, List<Integer> breaches) {
        if (!ground.equals("none") && classOf(coat).equals(ground)) {
            breaches.add(word);
        }
    }

    /** The four counts of promise 11. */
    static int[] counts(Tree.Shield tree) {
        int[] counts = new int[4];
        sum(tree, counts);
        counts[3] = depth(tree);
        return counts;
    }

    private static void sum(Tree.Shield shield, int[] counts) {
        counts[0]++;
        for (Object part : shield.parts) {
            if (part instanceof Tree.Shield inner) {
                sum(inner, counts);
            }
        }
        for (Tree.Item item : shield.items) {
            counts[1]++;
            counts[2] += item.number + (item.charged == null ? 0 : item.charged.number);
        }
    }

    static int depth(Tree.Shield shield) {
        int below = 0;
        for (Object part : shield.parts) {
            if (part instanceof Tree.Shield inner) {
                below = Math.max(below, depth(inner));
            }
        }
        return 1 + below;
    }
}
