/** Promises 12 to 14: version, release, had. */
public final class VersionsTest {
    public static void main(String[] args) {
        Check check = new Check("VersionsTest");
        sixKept(check);
        having(check);
        numbersUsedAgain(check);
        twoKeepers(check);
        goingInOrder(check);
        check.end();
    }

    private static void sixKept(Check check) {
        TermBook book = new TermBook();
        for (int i = 0; i < 6; i++) {
            check.due("version", book.version(), i);
            check.due("kept", book.count(3), i + 1);
        }
        check.due("a seventh", book.version(), TermBook.FULL);
        check.due("ended", book.count(2), 6);
        int[] versions = {-1, 6, 7, Integer.MAX_VALUE, Integer.MIN_VALUE};
        for (int version : versions) {
            check.due("release(" + version + ")", book.release(version), TermBook.BAD);
            check.due("had(" + version + ", -1)", book.had(version, -1), TermBook.BAD);
        }
        check.due("release(3)", book.release(3), 0);
        check.due("release(3) again", book.release(3), TermBook.BAD);
        check.due("kept", book.count(3), 5);
        check.due("NONE is no version where a slot is free", book.release(-1), TermBook.BAD);
        check.due("had(-1, -1)", book.had(-1, -1), TermBook.BAD);
        check.due("numbers go on", book.version(), 6);
        check.due("ended", book.count(2), 7);
        check.due("full again", book.version(), TermBook.FULL);
        check.due("had(6, -1)", book.had(6, -1), 0);
        check.due("had(3, -1)", book.had(3, -1), TermBook.BAD);
    }

    private static void having(Check check) {
        TermBook book = new TermBook();
        for (int i = 0; i < 5; i++) {
            Check.add(book, i % 4, "h" + i);
        }
        book.version();
        book.drop(2);
        Check.add(book, 0, "later");
        book.version();
        check.due("had(0, -1)", book.had(0, -1), 5);
        check.due("had(1, -1), without the one that had no uses", book.had(1, -1), 5);
        check.due("had(0, 2)", book.had(0, 2), 1);
        check.due("had(1, 2)", book.had(1, 2), 0);
        check.due("had(0, 5)", book.had(0, 5), 0);
        check.due("had(1, 5)", book.had(1, 5), 1);
        check.due("had(0, 99)", book.had(0, 99), 0);
        int[] numbers = {-2, 100, Integer.MAX_VALUE, Integer.MIN_VALUE};
        for (int number : numbers) {
            check.due("had(0, " + number + ")", book.had(0, number), TermBook.BAD);
        }
        check.due("without uses", book.count(4), 1);
        Check.add(book, 2, "h2");
        check.due("uses that come later are not the version's", book.had(1, 2), 0);
        check.due("had(1, -1)", book.had(1, -1), 5);
    }

    private static void numbersUsedAgain(Check check) {
        TermBook book = new TermBook();
        Check.add(book, 0, "a");
        Check.add(book, 0, "b");
        book.drop(0);
        book.version();
        check.due("b alone is kept", book.had(0, -1), 1);
        check.due("the number comes again", Check.add(book, 0, "c"), 0);
        check.due("but not for that version", book.had(0, 0), 0);
        check.due("drop of c, no version has it", book.drop(0), 0);
        check.due("it is gone", book.term(0, 0), TermBook.BAD);
        check.due("b", book.drop(1), 0);
        check.due("b stays", book.term(1, 1), 0);
        check.due("b goes", book.release(0), 1);
        check.due("terms", book.count(0), 0);
        check.due("b's number is used by c", Check.add(book, 0, "d") + Check.add(book, 0, "c"), 1);
        book.version();
        check.due("had(1, -1)", book.had(1, -1), 2);
        book.release(1);
        check.due("a version in a slot used again", book.version(), 2);
    }

    private static void twoKeepers(Check check) {
        TermBook book = new TermBook();
        Check.add(book, 0, "a");
        book.version();
        book.version();
        Check.add(book, 0, "b");
        book.version();
        book.drop(0);
        book.drop(1);
        check.due("both without uses", book.count(4), 2);
        check.due("release(0)", book.release(0), 0);
        check.due("release(2) lets b go, not a", book.release(2), 1);
        check.due("a is there", book.had(1, 0), 1);
        check.due("b is not", book.had(1, 1), 0);
        check.due("release(1)", book.release(1), 1);
        check.due("terms", book.count(0), 0);
        check.due("leaves", book.count(1), 0);
    }

    /** From the last to the first, the same terms' going would leave leaves of 6 and 7. */
    private static void goingInOrder(Check check) {
        TermBook book = new TermBook();
        for (char c = 'a'; c <= 'z'; c++) {
            Check.add(book, 0, String.valueOf(c));
        }
        check.due("leaves", Check.sizes(book), 444446);
        book.version();
        for (int number = 0; number < 26; number++) {
            if (number % 4 == 1 || number % 4 == 2) {
                book.drop(number);
            }
        }
        check.due("they stay", Check.sizes(book), 444446);
        check.due("thirteen go", book.release(0), 13);
        check.due("leaves then", Check.sizes(book), 445);
        check.due("first of the second leaf", book.leaf(1, 3), 8);
    }
}
