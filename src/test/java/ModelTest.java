/**
 * Runs of calls by a fixed rule, each answer held against a plain model of the document. No object is
 * asked more than 512 times, so a run stops earlier when all that can be read then is to be looked at.
 */
public final class ModelTest {
    private static final int RUNS = 400;
    private static final int CALLS = 512;
    private static final int[] STOPS = {CALLS, 440, 350, 260, 200, 140, 90, 50, 20};
    private static final int[] ODD = {-1, -2, 4, 7, 99, 100, 101, 255, Integer.MAX_VALUE, Integer.MIN_VALUE};

    private final Check check = new Check("ModelTest");
    private long seed;
    private TermBook book;
    private Model model;
    private String alphabet;
    private String run;
    private int asked;

    public static void main(String[] args) {
        ModelTest test = new ModelTest();
        for (int run = 0; run < RUNS; run++) {
            for (int stop : STOPS) {
                test.run(run, stop);
            }
        }
        test.check.end();
    }

    private int next(int bound) {
        seed = seed * 6364136223846793005L + 1442695040888963407L;
        return (int) ((seed >>> 33) % bound);
    }

    private void run(int number, int stop) {
        seed = number * 7919L + 1;
        book = new TermBook();
        model = new Model();
        run = "run " + number;
        asked = 0;
        String[] alphabets = {"ab", "abcdefgh", "!a~", "abcdefghijklmnopqrstuvwxyz0123456789"};
        alphabet = alphabets[number % alphabets.length];
        int eager = 1 + next(10);
        while (asked < stop) {
            // phases that grow and phases that shrink, so that leaves part and join in every way
            boolean grows = next(12) < (asked % 256 < 150 ? eager + 2 : eager - 1);
            if (grows) {
                grow();
            } else {
                other();
            }
        }
        look();
    }

    private void grow() {
        String text = text(1 + next(next(6) == 0 ? 8 : 3));
        due("type " + text, book.type(Check.packed(text), text.length()), model.type(Check.packed(text), text.length()));
        int kind = next(30) == 0 ? odd() : next(4);
        if (asked < CALLS) {
            due("add " + kind, book.add(kind), model.add(kind));
        }
    }

    private String text(int length) {
        StringBuilder text = new StringBuilder();
        for (int i = 0; i < length; i++) {
            text.append(alphabet.charAt(next(alphabet.length())));
        }
        return text.toString();
    }

    private int odd() {
        return ODD[next(ODD.length)];
    }

    private int arg(int bound) {
        return next(15) == 0 ? odd() : next(bound);
    }

    private int someVersion() {
        return next(15) == 0 ? odd() : model.count(2) - next(10);
    }

    private void other() {
        switch (next(18)) {
            case 0:
                type();
                break;
            case 1:
                due("clear", book.clear(), model.clear());
                break;
            case 2:
                due("version", book.version(), model.version());
                break;
            case 3: {
                int version = someVersion();
                due("release " + version, book.release(version), model.release(version));
                break;
            }
            case 4:
            case 5:
            case 6:
            case 7:
                read();
                break;
            default: {
                int number = next(30) == 0 ? odd() : model.at(next(Math.max(1, model.count(0))));
                due("drop " + number, book.drop(number), model.drop(number));
                break;
            }
        }
    }

    private void type() {
        String text = text(1 + next(8));
        int n = next(12) == 0 ? odd() : text.length();
        long bytes = next(12) == 0 ? Check.packed(text) ^ 1L << next(64) : Check.packed(text);
        due("type " + bytes + " " + n, book.type(bytes, n), model.type(bytes, n));
    }

    /** One of the calls that change nothing. */
    private void read() {
        int which = next(9);
        int i = arg(model.count(0) + 2);
        int kind = arg(4);
        int what = arg(which < 2 ? 20 : 8);
        switch (which) {
            case 0:
            case 1:
                due("term " + i + " " + what, book.term(i, what), model.term(i, what));
                break;
            case 2:
                due("at " + i, book.at(i), model.at(i));
                break;
            case 3:
                due("place " + i, book.place(i), model.place(i));
                break;
            case 4:
                due("find " + kind, book.find(kind), model.find(kind));
                break;
            case 5:
                due("begins " + kind, book.begins(kind), model.begins(kind));
                break;
            case 6:
                due("from " + kind, book.from(kind), model.from(kind));
                break;
            case 7: {
                int version = someVersion();
                due("had " + version + " " + (i - 1), book.had(version, i - 1), model.had(version, i - 1));
                break;
            }
            default:
                due("count " + what, book.count(what), model.count(what));
                break;
        }
    }

    /** The leaves and the order first, then whatever the calls that are left allow. */
    private void look() {
        for (int what = 0; what <= 6 && asked < CALLS; what++) {
            due("count " + what, book.count(what), model.count(what));
        }
        for (int i = 0; i <= model.count(1); i++) {
            for (int what = 0; what <= 3 && asked < CALLS; what++) {
                due("leaf " + i + " " + what, book.leaf(i, what), model.leaf(i, what));
            }
        }
        for (int i = 0; i <= model.count(0) && asked < CALLS; i++) {
            due("at " + i, book.at(i), model.at(i));
        }
        while (asked < CALLS) {
            read();
        }
    }

    private void due(String call, int got, int want) {
        asked++;
        check.due(run + " call " + asked + " " + call, got, want);
    }
}
