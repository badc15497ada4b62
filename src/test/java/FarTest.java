import java.util.ArrayList;
import java.util.HashMap;
import java.util.List;
import java.util.Map;
import java.util.PriorityQueue;
import java.util.Random;

/**
 * Promise 8 by its own words: FAR is the least sum of acts. All acts are tried (each change of a
 * part, each part taken out, each put in over some that stand side by side), the cheapest way first,
 * over all rows of trees with four parts at most.
 */
final class FarTest {
    private static final int MOST = 4;
    private static final String[] LABELS = {"a", "b", "a#x\"t\"", "b\"t\""};
    // CHANGE of the label of one row into that of the column, counted by hand from the document.
    private static final int[][] CHANGE = {{0, 4, 3, 5}, {4, 0, 7, 1}, {3, 7, 0, 6}, {5, 1, 6, 0}};

    record Tree(int label, List<Tree> under) { }

    record Way(int sum, List<Tree> trees) { }

    public static void main(String[] args) {
        Check check = new Check();
        Random lot = new Random(8);
        for (int from = 0; from < 12; from++) {
            List<Tree> source = List.of(someTree(lot, 1 + lot.nextInt(MOST)));
            Map<List<Tree>, Integer> least = leastSums(source);
            for (Map.Entry<List<Tree>, Integer> entry : least.entrySet()) {
                List<Tree> target = entry.getKey();
                if (target.size() == 1 && (size(target) < MOST || lot.nextInt(10) == 0)) {
                    ClickBench x = Check.with(text(source), text(target));
                    String call = "far of <" + text(source) + "> and <" + text(target) + ">";
                    check.due(call, x.far(0, 0, 1, 0), entry.getValue());
                    check.due(call + " turned", x.far(1, 0, 0, 0), entry.getValue());
                }
            }
        }
        check.finish();
    }

    private static Tree someTree(Random lot, int size) {
        List<Tree> under = new ArrayList<>();
        for (int left = size - 1; left > 0;) {
            int share = 1 + lot.nextInt(left);
            under.add(someTree(lot, share));
            left -= share;
        }
        return new Tree(lot.nextInt(LABELS.length), under);
    }

    private static int size(List<Tree> trees) {
        int size = 0;
        for (Tree tree : trees) {
            size += 1 + size(tree.under);
        }
        return size;
    }

    private static String text(List<Tree> trees) {
        StringBuilder text = new StringBuilder();
        for (Tree tree : trees) {
            text.append(LABELS[tree.label]);
            if (!tree.under.isEmpty()) {
                text.append('(').append(text(tree.under)).append(')');
            }
            text.append(' ');
        }
        return text.toString();
    }

    private static Map<List<Tree>, Integer> leastSums(List<Tree> source) {
        Map<List<Tree>, Integer> least = new HashMap<>();
        PriorityQueue<Way> open = new PriorityQueue<>((a, b) -> a.sum - b.sum);
        open.add(new Way(0, source));
        while (!open.isEmpty()) {
            Way way = open.remove();
            if (least.putIfAbsent(way.trees, way.sum) == null) {
                for (Way act : acts(way.trees, size(way.trees) < MOST)) {
                    if (!least.containsKey(act.trees)) {
                        open.add(new Way(way.sum + act.sum, act.trees));
                    }
                }
            }
        }
        return least;
    }

    /** All that one act can make of a row of trees, with what the act costs. */
    private static List<Way> acts(List<Tree> trees, boolean mayGrow) {
        List<Way> acts = new ArrayList<>();
        for (int i = 0; i < trees.size(); i++) {
            Tree tree = trees.get(i);
            acts.add(new Way(3, spliced(trees, i, i + 1, tree.under)));
            for (int label = 0; label < LABELS.length; label++) {
                if (label != tree.label) {
                    List<Tree> changed = List.of(new Tree(label, tree.under));
                    acts.add(new Way(CHANGE[tree.label][label], spliced(trees, i, i + 1, changed)));
                }
            }
            for (Way below : acts(tree.under, mayGrow)) {
                acts.add(new Way(below.sum, spliced(trees, i, i + 1, List.of(new Tree(tree.label, below.trees)))));
            }
        }
        for (int i = 0; mayGrow && i <= trees.size(); i++) {
            for (int j = i; j <= trees.size(); j++) {
                for (int label = 0; label < LABELS.length; label++) {
                    List<Tree> over = List.of(new Tree(label, new ArrayList<>(trees.subList(i, j))));
                    acts.add(new Way(3, spliced(trees, i, j, over)));
                }
            }
        }
        return acts;
    }

    private static List<Tree> spliced(List<Tree> trees, int from, int to, List<Tree> instead) {
        List<Tree> spliced = new ArrayList<>(trees.subList(0, from));
        spliced.addAll(instead);
        spliced.addAll(trees.subList(to, trees.size()));
        return spliced;
    }
}
