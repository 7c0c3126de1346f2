/** The edges of promises 12 to 14: 6 kept, versions that are not kept, numbers -1 .. 99, as it was then. */
public final class VersionsEdgesTest {
    private static final int LEAST = Integer.MIN_VALUE;
    private static final int GREATEST = Integer.MAX_VALUE;

    public static void main(String[] args) {
        Check check = new Check("VersionsEdgesTest");
        sixAndSeventh(check);
        eachOfSix(check);
        notKept(check);
        manyInTurn(check);
        emptyVersion(check);
        hadNumbers(check);
        asItWasThen(check);
        asItWasThenForAnother(check);
        usesOneAndNone(check);
        goingOrNot(check);
        allGo(check);
        goingInOrder(check);
        check.end();
    }

    private static void sixAndSeventh(Check check) {
        TermBook book = Books.letters(3);
        for (int i = 0; i < 6; i++) {
            check.due("version " + i, book.version(), i);
            check.due("ended", book.count(2), i + 1);
            check.due("kept", book.count(3), i + 1);
        }
        Books.come(book, "0new");
        check.due("the seventh", book.version(), TermBook.FULL);
        check.due("the seventh again", book.version(), TermBook.FULL);
        check.due("ended", book.count(2), 6);
        check.due("kept", book.count(3), 6);
        for (int i = 0; i < 6; i++) {
            check.due("none has what came later", book.had(i, 3), 0);
            check.due("had(" + i + ", -1)", book.had(i, -1), 3);
        }
        check.due("no version 6", book.had(6, -1), TermBook.BAD);
        check.due("drop, the refused version has it not", book.drop(3), 0);
        check.due("it goes", book.count(0), 3);
    }

    /** Each of the six is released in turn; the next version takes its place and its number is 6. */
    private static void eachOfSix(Check check) {
        for (int released = 0; released < 6; released++) {
            TermBook book = new TermBook();
            for (int i = 0; i < 6; i++) {
                Books.come(book, "0" + (char) ('a' + i));
                book.version();
            }
            check.due("release(" + released + ")", book.release(released), 0);
            check.due("kept", book.count(3), 5);
            check.due("ended", book.count(2), 6);
            check.due("release again", book.release(released), TermBook.BAD);
            book.drop(0);
            check.due("the next", book.version(), 6);
            check.due("full again", book.version(), TermBook.FULL);
            for (int i = 0; i < 6; i++) {
                check.due("had(" + i + ", -1)", book.had(i, -1), i == released ? TermBook.BAD : i + 1);
                check.due("had(" + i + ", 0)", book.had(i, 0), i == released ? TermBook.BAD : 1);
            }
            check.due("had(6, -1)", book.had(6, -1), 5);
            check.due("had(6, 0)", book.had(6, 0), 0);
        }
    }

    private static void notKept(Check check) {
        TermBook book = Books.letters(1);
        int[] never = {LEAST, -7, -2, -1, 0, 1, GREATEST};
        for (int version : never) {
            check.due("before any, release(" + version + ")", book.release(version), TermBook.BAD);
            check.due("before any, had(" + version + ", -1)", book.had(version, -1), TermBook.BAD);
            check.due("before any, had(" + version + ", 0)", book.had(version, 0), TermBook.BAD);
        }
        book.version();
        book.version();
        check.due("the first", book.had(0, -1), 1);
        check.due("the last", book.had(1, -1), 1);
        check.due("behind the last", book.had(2, -1), TermBook.BAD);
        check.due("release behind the last", book.release(2), TermBook.BAD);
        check.due("before the first", book.release(-1), TermBook.BAD);
        check.due("release of the last", book.release(1), 0);
        check.due("it is not kept", book.had(1, -1), TermBook.BAD);
        check.due("nor released twice", book.release(1), TermBook.BAD);
        check.due("its number does not come again", book.version(), 2);
        check.due("it is not kept still", book.had(1, 0), TermBook.BAD);
        check.due("both are bad", book.had(1, 100), TermBook.BAD);
    }

    /** Numbers go on, however many versions have been released. */
    private static void manyInTurn(Check check) {
        TermBook book = Books.letters(1);
        for (int i = 0; i < 100; i++) {
            check.due("version", book.version(), i);
            check.due("had(" + i + ", 0)", book.had(i, 0), 1);
            check.due("release(" + i + ")", book.release(i), 0);
        }
        check.due("ended", book.count(2), 100);
        check.due("kept", book.count(3), 0);
        check.due("the term is there", book.count(0), 1);
    }

    private static void emptyVersion(Check check) {
        TermBook book = new TermBook();
        check.due("version of no terms", book.version(), 0);
        check.due("it has none", book.had(0, -1), 0);
        Books.come(book, "0a");
        check.due("nor then", book.had(0, -1), 0);
        check.due("had(0, 0)", book.had(0, 0), 0);
        check.due("drop", book.drop(0), 0);
        check.due("it goes", book.count(0), 0);
        check.due("release", book.release(0), 0);
        check.due("kept", book.count(3), 0);
    }

    private static void hadNumbers(Check check) {
        int[] asked = {LEAST, -3, -2, -1, 0, 1, 98, 99, 100, 101, GREATEST};
        int bad = TermBook.BAD;
        int[] ofNone = {bad, bad, bad, 0, 0, 0, 0, 0, bad, bad, bad};
        int[] ofTwo = {bad, bad, bad, 2, 1, 1, 0, 0, bad, bad, bad};
        int[] of99 = {bad, bad, bad, 99, 1, 1, 1, 0, bad, bad, bad};
        int[] of100 = {bad, bad, bad, 100, 1, 1, 1, 1, bad, bad, bad};
        int[] sizes = {0, 2, 99, 100};
        int[][] due = {ofNone, ofTwo, of99, of100};
        for (int k = 0; k < sizes.length; k++) {
            TermBook book = Books.many(sizes[k]);
            book.version();
            for (int i = 0; i < asked.length; i++) {
                check.due("of " + sizes[k] + ", had(0, " + asked[i] + ")", book.had(0, asked[i]), due[k][i]);
                check.due("of " + sizes[k] + ", had(1, " + asked[i] + ")", book.had(1, asked[i]), bad);
            }
        }
    }

    /** What happens behind a version's end is not told by it. */
    private static void asItWasThen(Check check) {
        TermBook book = Books.letters(4);
        book.version();
        has(check, book, 0, 4, "1111000");
        book.drop(1);
        has(check, book, 0, 4, "1111000");
        Books.come(book, "0x");
        has(check, book, 0, 4, "1111000");
        Books.come(book, "0b");
        Books.come(book, "0b");
        has(check, book, 0, 4, "1111000");
        book.drop(0);
        book.version();
        has(check, book, 0, 4, "1111000");
        has(check, book, 1, 4, "0111100");
        book.drop(4);
        Books.come(book, "0a");
        has(check, book, 0, 4, "1111000");
        has(check, book, 1, 4, "0111100");
        check.due("release(1) lets x go", book.release(1), 1);
        has(check, book, 0, 4, "1111000");
        check.due("4 is another's", Books.come(book, "0y"), 4);
        has(check, book, 0, 4, "1111000");
    }

    private static void has(Check check, TermBook book, int version, int terms, String numbers) {
        check.due("had(" + version + ", -1)", book.had(version, -1), terms);
        for (int number = 0; number < numbers.length(); number++) {
            check.due("had(" + version + ", " + number + ")", book.had(version, number), numbers.charAt(number) - '0');
        }
    }

    /** A number that was free at a version's end is not its term's, whoever has it later. */
    private static void asItWasThenForAnother(Check check) {
        TermBook book = Books.letters(3);
        book.drop(0);
        book.version();
        has(check, book, 0, 2, "0110");
        check.due("the same text comes again", Books.come(book, "0a"), 0);
        has(check, book, 0, 2, "0110");
        book.version();
        has(check, book, 1, 3, "1110");
        book.drop(0);
        book.drop(1);
        has(check, book, 0, 2, "0110");
        has(check, book, 1, 3, "1110");
        check.due("release(1): a goes, b is kept by 0", book.release(1), 1);
        has(check, book, 0, 2, "0110");
        check.due("0 is free", Books.come(book, "0q"), 0);
        has(check, book, 0, 2, "0110");
        check.due("a version in the slot that was freed", book.version(), 2);
        has(check, book, 2, 2, "1010");
        has(check, book, 0, 2, "0110");
    }

    private static void usesOneAndNone(Check check) {
        TermBook book = Books.letters(3);
        Books.come(book, "0c");
        book.version();
        book.drop(0);
        check.due("without uses", book.term(0, 1), 0);
        check.due("one use", book.term(1, 1), 1);
        check.due("two uses", book.term(2, 1), 2);
        book.version();
        has(check, book, 1, 2, "011");
        check.due("release(0): who had no uses goes", book.release(0), 1);
        has(check, book, 1, 2, "0110");
    }

    /** Who goes by a release: no uses and no other version; neither alone is enough. */
    private static void goingOrNot(Check check) {
        TermBook book = Books.letters(4);
        book.version();
        book.drop(3);
        book.version();
        book.drop(1);
        book.drop(2);
        Books.come(book, "0c");
        check.due("without uses", book.count(4), 2);
        check.due("release(0): d alone", book.release(0), 1);
        check.due("d", book.term(3, 0), TermBook.BAD);
        check.due("b is kept by 1", book.term(1, 1), 0);
        check.due("without uses", book.count(4), 1);
        check.due("release(1): b alone", book.release(1), 1);
        check.due("b", book.term(1, 0), TermBook.BAD);
        check.due("c has a use", book.term(2, 1), 1);
        check.due("terms", book.count(0), 2);
        check.due("without uses", book.count(4), 0);
        check.due("c goes with its use", book.drop(2), 0);
        check.due("terms", book.count(0), 1);
    }

    private static void allGo(Check check) {
        TermBook book = Books.hundred();
        book.version();
        for (int number = 0; number < 100; number++) {
            check.due("drop(" + number + ")", book.drop(number), 0);
        }
        check.due("all without uses", book.count(4), 100);
        check.due("all are there", book.count(0), 100);
        check.due("the 101st", Books.come(book, "0z"), TermBook.FULL);
        check.due("all go", book.release(0), 100);
        for (int what = 0; what <= 6; what++) {
            check.due("count(" + what + ")", book.count(what), what == 2 ? 1 : 0);
        }
        check.due("the first number", Books.come(book, "0z"), 0);
    }

    /**
     * The order is that of the terms, not that of the numbers, which fall here where the order rises: if j, i
     * and h went before a, the second leaf would have 2 while the first has 7, and leaves of 5 and 3 were left.
     */
    private static void goingInOrder(Check check) {
        TermBook book = new TermBook();
        for (char c = 'l'; c >= 'a'; c--) {
            Books.come(book, "0" + c);
        }
        check.due("leaves", Check.sizes(book), 75);
        book.version();
        for (char c : "jiha".toCharArray()) {
            check.due("drop of " + c, book.drop('l' - c), 0);
        }
        check.due("they stay", Check.sizes(book), 75);
        check.due("four go", book.release(0), 4);
        check.due("2 and 6 were joined", Check.sizes(book), 8);
        check.due("b is the first", book.at(0), 'l' - 'b');
    }
}
