/** Every BAD, NO and FULL of promises 2 and 4 to 16, and that nothing has changed behind it but what is said. */
public final class RefusalsTest {
    private static final int LEAST = Integer.MIN_VALUE;
    private static final int GREATEST = Integer.MAX_VALUE;
    private static final int[] NO_KINDS = {-1, -2, 4, 5, LEAST, GREATEST};

    private final Check check;
    private final String name;
    private final Books.Making making;

    private RefusalsTest(Check check, String name, Books.Making making) {
        this.check = check;
        this.name = name;
        this.making = making;
    }

    public static void main(String[] args) {
        Check check = new Check("RefusalsTest");
        ofEmpty(new RefusalsTest(check, "empty book", Books::empty));
        ofSmall(new RefusalsTest(check, "small book", Books::small));
        ofFull(new RefusalsTest(check, "full book", Books::full));
        new RefusalsTest(check, "small book, empty tape", () -> smallWith("")).emptyTape();
        new RefusalsTest(check, "small book, 16 bytes", () -> smallWith("ABCDEFGHIJKLMNOP")).fullTape(1);
        new RefusalsTest(check, "small book, 15 bytes", () -> smallWith("ABCDEFGHIJKLMNO")).fullTape(2);
        new RefusalsTest(check, "small book, 9 bytes", () -> smallWith("ABCDEFGHI")).fullTape(8);
        check.end();
    }

    private static TermBook smallWith(String tape) {
        TermBook book = Books.small();
        book.clear();
        Check.type(book, tape);
        return book;
    }

    private static void ofEmpty(RefusalsTest test) {
        test.always();
        test.emptyTape();
        test.numbers(new int[] {-1, -2, 0, 1, 98, 99, 100, 101, LEAST, GREATEST});
        test.places(new int[] {-1, 0, 1, 99, 100, LEAST, GREATEST});
        test.versions(new int[] {-1, -2, 0, 1, 5, 6, LEAST, GREATEST});
        test.leaves(new int[] {-1, 0, 1, LEAST, GREATEST});
    }

    private static void ofSmall(RefusalsTest test) {
        test.always();
        test.numbers(new int[] {-1, -2, 10, 11, 98, 99, 100, 101, LEAST, GREATEST});
        test.unused(Books.SMALL_UNUSED);
        test.places(new int[] {-1, -2, 10, 11, 99, 100, LEAST, GREATEST});
        test.versions(new int[] {-1, -2, 0, 3, 4, 6, LEAST, GREATEST});
        test.hadNumbers(1);
        test.hadNumbers(2);
        test.leaves(new int[] {-1, -2, 2, 3, 10, LEAST, GREATEST});
        test.whats();
        test.refused("find(3) of what is not there", TermBook.NO, book -> book.find(3));
    }

    private static void ofFull(RefusalsTest test) {
        test.always();
        test.numbers(new int[] {-1, -2, 100, 101, LEAST, GREATEST});
        test.unused(Books.FULL_UNUSED);
        test.places(new int[] {-1, -2, 100, 101, LEAST, GREATEST});
        test.versions(new int[] {-1, -2, 6, 7, LEAST, GREATEST});
        test.hadNumbers(0);
        test.hadNumbers(5);
        test.leaves(new int[] {-1, -2, 24, 25, 100, LEAST, GREATEST});
        test.whats();
        test.fullTape(1);
        test.refused("version()", TermBook.FULL, TermBook::version);
        for (int kind = 0; kind <= 3; kind++) {
            int asked = kind;
            test.refused("find(" + kind + ")", TermBook.NO, book -> book.find(asked));
            test.refusedAndCleared("add(" + kind + ")", TermBook.FULL, book -> book.add(asked));
        }
    }

    private void refused(String call, int want, Twins.Call asked) {
        Twins.refused(check, name + ", " + call, making, asked, want);
    }

    private void refusedAndCleared(String call, int want, Twins.Call asked) {
        Twins.refusedAndCleared(check, name + ", " + call, making, asked, want);
    }

    /** What is wrong whatever the book has. */
    private void always() {
        for (int kind : NO_KINDS) {
            refusedAndCleared("add(" + kind + ")", TermBook.BAD, book -> book.add(kind));
            refused("find(" + kind + ")", TermBook.BAD, book -> book.find(kind));
            refused("begins(" + kind + ")", TermBook.BAD, book -> book.begins(kind));
            refused("from(" + kind + ")", TermBook.BAD, book -> book.from(kind));
        }
        int[] counts = {-1, -2, 7, 8, LEAST, GREATEST};
        for (int what : counts) {
            refused("count(" + what + ")", TermBook.BAD, book -> book.count(what));
        }
        int[] lengths = {-1, 0, 9, 10, 16, 17, LEAST, GREATEST};
        for (int n : lengths) {
            refused("type(.., " + n + ")", TermBook.BAD, book -> book.type(Check.packed("abcdefgh"), n));
        }
        long[] bytes = {0L, 32L, 127L, 128L, 255L, -1L, Long.MIN_VALUE, Long.MAX_VALUE};
        for (long typed : bytes) {
            for (int n = 1; n <= 8; n++) {
                int asked = n;
                refused("type(" + typed + ", " + n + ")", TermBook.BAD, book -> book.type(typed, asked));
            }
        }
    }

    private void emptyTape() {
        for (int kind = 0; kind <= 3; kind++) {
            int asked = kind;
            refused("add(" + kind + ") of an empty tape", TermBook.BAD, book -> book.add(asked));
            refused("find(" + kind + ") of an empty tape", TermBook.NO, book -> book.find(asked));
        }
        refused("add(4) of an empty tape", TermBook.BAD, book -> book.add(4));
        refused("find(4) of an empty tape", TermBook.BAD, book -> book.find(4));
    }

    private void fullTape(int least) {
        for (int n = least; n <= 8; n++) {
            int asked = n;
            refused("type of " + n, TermBook.FULL, book -> book.type(Check.packed("qrstuvwx"), asked));
        }
    }

    private void numbers(int[] wrong) {
        for (int number : wrong) {
            refused("drop(" + number + ")", TermBook.BAD, book -> book.drop(number));
            refused("place(" + number + ")", TermBook.BAD, book -> book.place(number));
            for (int what = 0; what <= 3; what++) {
                int asked = what;
                refused("term(" + number + ", " + what + ")", TermBook.BAD, book -> book.term(number, asked));
            }
        }
    }

    private void unused(int number) {
        refused("drop of one without uses", TermBook.BAD, book -> book.drop(number));
    }

    private void places(int[] wrong) {
        for (int i : wrong) {
            refused("at(" + i + ")", TermBook.NO, book -> book.at(i));
        }
    }

    private void versions(int[] wrong) {
        int[] numbers = {-2, -1, 0, 99, 100, LEAST, GREATEST};
        for (int version : wrong) {
            refused("release(" + version + ")", TermBook.BAD, book -> book.release(version));
            for (int number : numbers) {
                refused("had(" + version + ", " + number + ")", TermBook.BAD, book -> book.had(version, number));
            }
        }
    }

    private void hadNumbers(int version) {
        int[] wrong = {-2, -3, 100, 101, LEAST, GREATEST};
        for (int number : wrong) {
            refused("had(" + version + ", " + number + ")", TermBook.BAD, book -> book.had(version, number));
        }
    }

    private void leaves(int[] wrong) {
        for (int i : wrong) {
            for (int what = -1; what <= 4; what++) {
                int asked = what;
                refused("leaf(" + i + ", " + what + ")", TermBook.BAD, book -> book.leaf(i, asked));
            }
        }
    }

    /** Number 0 has a text of two bytes in the small and in the full book. */
    private void whats() {
        int[] ofTerm = {-1, -2, 5, 6, 18, 19, LEAST, LEAST + 2, LEAST + 3, GREATEST};
        for (int what : ofTerm) {
            refused("term(0, " + what + ")", TermBook.BAD, book -> book.term(0, what));
        }
        int[] ofLeaf = {-1, -2, 4, 5, LEAST, GREATEST};
        for (int what : ofLeaf) {
            refused("leaf(0, " + what + ")", TermBook.BAD, book -> book.leaf(0, what));
            refused("leaf(1, " + what + ")", TermBook.BAD, book -> book.leaf(1, what));
        }
    }
}
