/**
 * Books made by a fixed rule, in no more than 100 calls, so that more than 400 are left to read them by:
 * terms of texts of 1 .. 3 bytes come at first, later they are dropped and versions are released.
 */
final class Walks {
    static final int RUNS = 60;
    static final int[] CALLS = {10, 25, 40, 55, 70, 80, 90, 100};

    private final TermBook book = new TermBook();
    private final String alphabet;
    private long seed;
    private int made;

    private Walks(int run) {
        String[] alphabets = {"a", "ab", "!m~", "abcdefghij"};
        alphabet = alphabets[run % alphabets.length];
        seed = 104729L * run + 3;
    }

    interface Look {
        void at(Check check, String name, TermBook book);
    }

    /** Each walk's book at each of its lengths, a new one for every look. */
    static void all(Check check, String name, Look look) {
        for (int run = 0; run < RUNS; run++) {
            for (int calls : CALLS) {
                look.at(check, name + ", walk " + run + " of " + calls + " calls", book(run, calls));
            }
        }
    }

    static TermBook book(int run, int calls) {
        Walks walk = new Walks(run);
        while (walk.made < calls) {
            walk.step(calls);
        }
        return walk.book;
    }

    private int next(int bound) {
        seed = seed * 6364136223846793005L + 1442695040888963407L;
        return (int) ((seed >>> 33) % bound);
    }

    private void step(int calls) {
        int choice = next(12);
        if (choice == 0) {
            book.version();
            made++;
        } else if (choice == 1) {
            book.release(next(8));
            made++;
        } else if (made > 60 || choice < 4 || made + 2 > calls) {
            book.drop(next(30));
            made++;
        } else {
            book.type(text(), 1 + next(3));
            book.add(next(4));
            made += 2;
        }
    }

    private long text() {
        long bytes = 0;
        for (int i = 0; i < 3; i++) {
            bytes = bytes << 8 | alphabet.charAt(next(alphabet.length()));
        }
        return bytes;
    }
}
