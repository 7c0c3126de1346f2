import java.util.ArrayList;
import java.util.HashSet;
import java.util.List;
import java.util.Map;
import java.util.Set;
import java.util.TreeMap;
import java.util.TreeSet;

/**
 * The document's words in the Java library's terms, held in another way than the program holds them:
 * a term is its kind's digit and its text in one String, leaves are sets, a version a set of terms.
 */
final class Model {
    private String tape = "";
    private final TreeMap<String, Integer> numbers = new TreeMap<>();
    private final TreeMap<String, Integer> uses = new TreeMap<>();
    private final List<TreeSet<String>> leaves = new ArrayList<>();
    private final Map<Integer, Set<String>> kept = new TreeMap<>();
    private int ended;

    int type(long bytes, int n) {
        if (n < 1 || n > 8) {
            return -1;
        }
        StringBuilder typed = new StringBuilder();
        for (int i = n - 1; i >= 0; i--) {
            int b = (int) (bytes >> 8 * i & 0xff);
            if (b < 33 || b > 126) {
                return -1;
            }
            typed.append((char) b);
        }
        if (tape.length() + n > 16) {
            return -3;
        }
        tape += typed;
        return tape.length();
    }

    int clear() {
        int length = tape.length();
        tape = "";
        return length;
    }

    int add(int kind) {
        String term = kind + tape;
        boolean empty = tape.isEmpty();
        tape = "";
        if (kind < 0 || kind > 3 || empty) {
            return -1;
        }
        if (!numbers.containsKey(term)) {
            if (numbers.size() == 100) {
                return -3;
            }
            int number = 0;
            while (numbers.containsValue(number)) {
                number++;
            }
            numbers.put(term, number);
            uses.put(term, 0);
            lay(term);
        }
        uses.merge(term, 1, Integer::sum);
        return numbers.get(term);
    }

    private void lay(String term) {
        if (leaves.isEmpty()) {
            leaves.add(new TreeSet<>());
        }
        TreeSet<String> leaf = leaves.get(leaves.size() - 1);
        for (TreeSet<String> candidate : leaves) {
            if (!candidate.isEmpty() && candidate.last().compareTo(term) > 0) {
                leaf = candidate;
                break;
            }
        }
        leaf.add(term);
        if (leaf.size() == 9) {
            TreeSet<String> behind = new TreeSet<>();
            while (leaf.size() > 4) {
                behind.add(leaf.pollLast());
            }
            leaves.add(leaves.indexOf(leaf) + 1, behind);
        }
    }

    private String named(int number) {
        for (Map.Entry<String, Integer> entry : numbers.entrySet()) {
            if (entry.getValue() == number) {
                return entry.getKey();
            }
        }
        return null;
    }

    private boolean goes(String term) {
        if (uses.get(term) > 0) {
            return false;
        }
        for (Set<String> version : kept.values()) {
            if (version.contains(term)) {
                return false;
            }
        }
        return true;
    }

    private void go(String term) {
        numbers.remove(term);
        uses.remove(term);
        int i = 0;
        while (!leaves.get(i).remove(term)) {
            i++;
        }
        TreeSet<String> leaf = leaves.get(i);
        if (leaf.size() >= 3) {
            return;
        }
        if (leaves.size() == 1) {
            if (leaf.isEmpty()) {
                leaves.clear();
            }
            return;
        }
        boolean last = i == leaves.size() - 1;
        TreeSet<String> other = leaves.get(last ? i - 1 : i + 1);
        if (leaf.size() + other.size() <= 8) {
            leaf.addAll(other);
            leaves.remove(last ? i - 1 : i + 1);
        } else {
            leaf.add(last ? other.pollLast() : other.pollFirst());
        }
    }

    int drop(int number) {
        String term = named(number);
        if (term == null || uses.get(term) == 0) {
            return -1;
        }
        int left = uses.merge(term, -1, Integer::sum);
        if (goes(term)) {
            go(term);
        }
        return left;
    }

    int find(int kind) {
        if (kind < 0 || kind > 3) {
            return -1;
        }
        return numbers.getOrDefault(kind + tape, -2);
    }

    int term(int number, int what) {
        String term = named(number);
        if (term == null || what < 0) {
            return -1;
        }
        String text = term.substring(1);
        int[] told = new int[3 + text.length()];
        told[0] = term.charAt(0) - '0';
        told[1] = uses.get(term);
        told[2] = text.length();
        for (int i = 0; i < text.length(); i++) {
            told[3 + i] = text.charAt(i);
        }
        return what < told.length ? told[what] : -1;
    }

    int at(int i) {
        return i < 0 || i >= numbers.size() ? -2 : new ArrayList<>(numbers.values()).get(i);
    }

    int place(int number) {
        return new ArrayList<>(numbers.values()).indexOf(number);
    }

    int begins(int kind) {
        if (kind < 0 || kind > 3) {
            return -1;
        }
        int found = 0;
        for (String term : numbers.keySet()) {
            if (term.startsWith(kind + tape)) {
                found++;
            }
        }
        return found;
    }

    int from(int kind) {
        return kind < 0 || kind > 3 ? -1 : numbers.headMap(kind + tape).size();
    }

    int version() {
        if (kept.size() == 6) {
            return -3;
        }
        Set<String> has = new HashSet<>();
        for (Map.Entry<String, Integer> entry : uses.entrySet()) {
            if (entry.getValue() > 0) {
                has.add(entry.getKey());
            }
        }
        kept.put(ended, has);
        return ended++;
    }

    int release(int version) {
        if (kept.remove(version) == null) {
            return -1;
        }
        int gone = 0;
        for (String term : new ArrayList<>(numbers.keySet())) {
            if (goes(term)) {
                go(term);
                gone++;
            }
        }
        return gone;
    }

    int had(int version, int number) {
        Set<String> has = kept.get(version);
        if (has == null || number < -1 || number > 99) {
            return -1;
        }
        if (number == -1) {
            return has.size();
        }
        String term = named(number);
        return term != null && has.contains(term) ? 1 : 0;
    }

    int leaf(int i, int what) {
        if (i < 0 || i >= leaves.size() || what < 0 || what > 3) {
            return -1;
        }
        TreeSet<String> leaf = leaves.get(i);
        int[] told = {leaf.size(), shared(leaf), cost(leaf), numbers.get(leaf.first())};
        return told[what];
    }

    private static int shared(TreeSet<String> leaf) {
        String common = leaf.first();
        for (String term : leaf) {
            while (!term.startsWith(common)) {
                common = common.substring(0, common.length() - 1);
            }
        }
        return Math.max(0, common.length() - 1);
    }

    private static int cost(TreeSet<String> leaf) {
        int cost = shared(leaf);
        for (String term : leaf) {
            cost += term.length() - 1 - shared(leaf);
        }
        return cost;
    }

    int count(int what) {
        int unused = 0;
        for (int used : uses.values()) {
            unused += used == 0 ? 1 : 0;
        }
        int cost = 0;
        for (TreeSet<String> leaf : leaves) {
            cost += cost(leaf);
        }
        int[] told = {numbers.size(), leaves.size(), ended, kept.size(), unused, tape.length(), cost};
        return what < 0 || what >= told.length ? -1 : told[what];
    }
}
