/** Long runs of calls by a fixed rule, each answer held against a plain model of the document. */
public final class ModelTest {
    private static final int RUNS = 300;
    private static final int CALLS = 512;
    private static final int[] ODD = {-1, -2, 4, 7, 99, 100, 101, 255, Integer.MAX_VALUE, Integer.MIN_VALUE};

    private final Check check = new Check("ModelTest");
    private long seed;
    private TermBook book;
    private Model model;
    private String alphabet;
    private String name;

    public static void main(String[] args) {
        ModelTest test = new ModelTest();
        for (int run = 0; run < RUNS; run++) {
            test.run(run);
        }
        test.check.end();
    }

    private int next(int bound) {
        seed = seed * 6364136223846793005L + 1442695040888963407L;
        return (int) ((seed >>> 33) % bound);
    }

    private void run(int run) {
        seed = run * 7919L + 1;
        book = new TermBook();
        model = new Model();
        String[] alphabets = {"ab", "abcdefgh", "!a~", "abcdefghijklmnopqrstuvwxyz0123456789"};
        alphabet = alphabets[run % alphabets.length];
        int eager = 1 + next(10);
        int calls = 0;
        while (calls < CALLS) {
            name = "run " + run + " call " + calls + " ";
            // phases that grow and phases that shrink, so that leaves part and join in every way
            boolean grows = next(12) < (calls % 256 < 150 ? eager + 2 : eager - 1);
            calls += grows ? grow() : other();
            if (run % 8 == 0) {
                everything();
            }
        }
        everything();
    }

    private int grow() {
        String text = text(1 + next(next(6) == 0 ? 8 : 3));
        due("type " + text, book.type(Check.packed(text), text.length()), model.type(Check.packed(text), text.length()));
        int kind = next(30) == 0 ? odd() : next(4);
        due("add " + kind, book.add(kind), model.add(kind));
        return 2;
    }

    private String text(int length) {
        StringBuilder text = new StringBuilder();
        for (int i = 0; i < length; i++) {
            text.append(alphabet.charAt(next(alphabet.length())));
        }
        return text.toString();
    }

    private int odd() {
        return ODD[next(ODD.length)];
    }

    private int arg(int bound) {
        return next(15) == 0 ? odd() : next(bound);
    }

    private int other() {
        int terms = Math.max(1, model.count(0));
        switch (next(22)) {
            case 0: {
                String text = text(1 + next(8));
                int n = next(12) == 0 ? odd() : text.length();
                long bytes = next(12) == 0 ? Check.packed(text) ^ 1L << next(64) : Check.packed(text);
                due("type " + bytes + " " + n, book.type(bytes, n), model.type(bytes, n));
                break;
            }
            case 1:
                due("clear", book.clear(), model.clear());
                break;
            case 2: {
                int kind = arg(4);
                due("find " + kind, book.find(kind), model.find(kind));
                break;
            }
            case 3: {
                int number = arg(terms);
                int what = arg(22);
                due("term " + number + " " + what, book.term(number, what), model.term(number, what));
                break;
            }
            case 4: {
                int i = arg(terms + 1);
                due("at " + i, book.at(i), model.at(i));
                due("place " + i, book.place(i), model.place(i));
                return 2;
            }
            case 5: {
                int kind = arg(4);
                due("begins " + kind, book.begins(kind), model.begins(kind));
                due("from " + kind, book.from(kind), model.from(kind));
                return 2;
            }
            case 6:
                due("version", book.version(), model.version());
                break;
            case 7: {
                int version = next(15) == 0 ? odd() : model.count(2) - 1 - next(9);
                due("release " + version, book.release(version), model.release(version));
                break;
            }
            case 8: {
                int version = next(15) == 0 ? odd() : model.count(2) - 1 - next(9);
                int number = arg(terms + 1) - 1;
                due("had " + version + " " + number, book.had(version, number), model.had(version, number));
                break;
            }
            case 9: {
                int i = arg(16);
                int what = arg(5);
                due("leaf " + i + " " + what, book.leaf(i, what), model.leaf(i, what));
                break;
            }
            case 10: {
                int what = arg(8);
                due("count " + what, book.count(what), model.count(what));
                break;
            }
            default: {
                int number = next(30) == 0 ? odd() : model.at(next(terms));
                due("drop " + number, book.drop(number), model.drop(number));
                break;
            }
        }
        return 1;
    }

    /** All that can be read; these calls change nothing, so they do not count as calls of the run. */
    private void everything() {
        for (int what = -1; what <= 7; what++) {
            due("count " + what, book.count(what), model.count(what));
        }
        for (int i = -1; i <= 100; i++) {
            due("at " + i, book.at(i), model.at(i));
            due("place " + i, book.place(i), model.place(i));
            due("term uses " + i, book.term(i, 1), model.term(i, 1));
        }
        for (int i = -1; i <= model.count(1); i++) {
            for (int what = -1; what <= 4; what++) {
                due("leaf " + i + " " + what, book.leaf(i, what), model.leaf(i, what));
            }
        }
        for (int kind = -1; kind <= 4; kind++) {
            due("find " + kind, book.find(kind), model.find(kind));
            due("begins " + kind, book.begins(kind), model.begins(kind));
            due("from " + kind, book.from(kind), model.from(kind));
        }
        for (int version = model.count(2) - 9; version <= model.count(2); version++) {
            for (int number = -2; number <= 100; number += 1 + next(7)) {
                due("had " + version + " " + number, book.had(version, number), model.had(version, number));
            }
        }
    }

    private void due(String call, int got, int want) {
        check.due(name + call, got, want);
    }
}
