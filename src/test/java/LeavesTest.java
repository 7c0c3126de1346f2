/** Promises 15 and 16: leaf, count; and how leaves part, join and hand over terms. */
public final class LeavesTest {
    public static void main(String[] args) {
        Check check = new Check("LeavesTest");
        parting(check);
        coming(check);
        joiningBehind(check);
        joiningBefore(check);
        handingOver(check);
        leafAlone(check);
        sharing(check);
        wrongInputs(check);
        counting(check);
        check.end();
    }

    /** Numbers 0, 1, .. are 'a', 'b', .. of kind 0. */
    private static TermBook letters(int n) {
        TermBook book = new TermBook();
        for (int i = 0; i < n; i++) {
            Check.add(book, 0, String.valueOf((char) ('a' + i)));
        }
        return book;
    }

    private static void parting(Check check) {
        TermBook book = letters(8);
        check.due("eight", Check.sizes(book), 8);
        Check.add(book, 0, "i");
        check.due("the ninth", Check.sizes(book), 45);
        check.due("first of the first", book.leaf(0, 3), 0);
        check.due("first of the second", book.leaf(1, 3), 4);
        book = letters(8);
        Check.add(book, 0, "!");
        check.due("a ninth before all", Check.sizes(book), 45);
        check.due("first of the first", book.leaf(0, 3), 8);
        check.due("first of the second", book.leaf(1, 3), 3);
    }

    private static void coming(Check check) {
        TermBook book = letters(9);
        Check.add(book, 0, "dd");
        check.due("between two leaves: the second, its last is behind", Check.sizes(book), 46);
        check.due("it is its first", book.leaf(1, 3), 9);
        Check.add(book, 0, "cc");
        check.due("inside the first", Check.sizes(book), 56);
        Check.add(book, 1, "a");
        check.due("behind all: the last", Check.sizes(book), 57);
        Check.add(book, 0, "A");
        check.due("before all: the first", Check.sizes(book), 67);
        Check.add(book, 3, "x");
        Check.add(book, 3, "y");
        check.due("the second is parted", Check.sizes(book), 645);
        for (char c = '0'; c < '3'; c++) {
            Check.add(book, 0, String.valueOf(c));
        }
        check.due("the first is parted, others lie behind", Check.sizes(book), 4545);
    }

    private static void joiningBehind(Check check) {
        TermBook book = letters(13);
        check.due("three leaves", Check.sizes(book), 445);
        book.drop(1);
        check.due("three are enough", Check.sizes(book), 345);
        book.drop(0);
        check.due("two are joined with the leaf behind", Check.sizes(book), 65);
        check.due("first of the joined", book.leaf(0, 3), 2);
        check.due("the next moved up", book.leaf(1, 3), 8);
        check.due("there is no third", book.leaf(2, 0), TermBook.BAD);
        book = letters(13);
        book.drop(4);
        book.drop(5);
        check.due("the middle one joins behind, not before", Check.sizes(book), 47);
        book = letters(10);
        check.due("4 and 6", Check.sizes(book), 46);
        book.drop(0);
        book.drop(3);
        check.due("2 and 6 are 8", Check.sizes(book), 8);
    }

    private static void joiningBefore(Check check) {
        TermBook book = letters(13);
        book.drop(12);
        book.drop(11);
        check.due("last has 3", Check.sizes(book), 443);
        book.drop(10);
        check.due("the last one joins the one before", Check.sizes(book), 46);
        check.due("first of the joined", book.leaf(1, 3), 4);
    }

    private static void handingOver(Check check) {
        TermBook book = letters(11);
        check.due("4 and 7", Check.sizes(book), 47);
        book.drop(1);
        book.drop(2);
        check.due("2 and 7: one comes over from behind", Check.sizes(book), 36);
        check.due("first of the second", book.leaf(1, 3), 5);
        check.due("the order is as before", book.at(2), 4);
        book.drop(0);
        check.due("2 and 6 are joined", Check.sizes(book), 8);

        book = letters(9);
        for (char c = '0'; c < '4'; c++) {
            Check.add(book, 0, String.valueOf(c));
        }
        check.due("8 and 5", Check.sizes(book), 85);
        book.drop(8);
        book.drop(7);
        check.due("8 and 3", Check.sizes(book), 83);
        book.drop(5);
        check.due("8 and 2: one comes over from before", Check.sizes(book), 73);
        check.due("it is the last of the one before", book.leaf(1, 3), 3);
        check.due("place of it", book.place(3), 7);

        book = letters(12);
        check.due("4 and 8", Check.sizes(book), 48);
        book.drop(0);
        book.drop(1);
        check.due("2 and 8: one comes over", Check.sizes(book), 37);
    }

    private static void leafAlone(Check check) {
        TermBook book = letters(3);
        book.drop(1);
        check.due("two alone", Check.sizes(book), 2);
        book.drop(0);
        check.due("one alone", Check.sizes(book), 1);
        check.due("its first", book.leaf(0, 3), 2);
        check.due("its SHARED is its text", book.leaf(0, 1), 1);
        check.due("its COST", book.leaf(0, 2), 1);
        book.drop(2);
        check.due("no leaf", book.count(1), 0);
        check.due("leaf(0, 0)", book.leaf(0, 0), TermBook.BAD);
        Check.add(book, 0, "z");
        check.due("a first leaf again", Check.sizes(book), 1);
    }

    private static void sharing(Check check) {
        TermBook book = new TermBook();
        shared(check, book, 1, "abcdefghijk", 11, 11);
        shared(check, book, 1, "abcdefghixy", 9, 13);
        shared(check, book, 1, "abcdefghi", 9, 13);
        shared(check, book, 1, "abcdefgh", 8, 8 + 3 + 3 + 1);
        shared(check, book, 1, "abcd", 4, 4 + 7 + 7 + 5 + 4);
        shared(check, book, 2, "abcd", 0, 11 + 11 + 9 + 8 + 4 + 4);
        shared(check, book, 1, "b", 0, 11 + 11 + 9 + 8 + 4 + 4 + 1);
        TermBook whole = new TermBook();
        shared(check, whole, 3, "abcdefghijklmnop", 16, 16);
        shared(check, whole, 3, "abcdefghijklmnoq", 15, 17);
        whole.version();
        whole.drop(1);
        check.due("one without uses counts too", whole.leaf(0, 2), 17);
        whole.release(0);
        check.due("until it goes", whole.leaf(0, 2), 16);
    }

    private static void shared(Check check, TermBook book, int kind, String text, int shared, int cost) {
        Check.add(book, kind, text);
        check.due("SHARED with " + kind + " '" + text + "'", book.leaf(0, 1), shared);
        check.due("COST with " + kind + " '" + text + "'", book.leaf(0, 2), cost);
        check.due("all leaves' COST", book.count(6), cost);
    }

    private static void wrongInputs(Check check) {
        TermBook book = letters(9);
        int[] leaves = {-1, 2, 3, 100, Integer.MAX_VALUE, Integer.MIN_VALUE};
        for (int i : leaves) {
            for (int what = 0; what < 4; what++) {
                check.due("leaf(" + i + ", " + what + ")", book.leaf(i, what), TermBook.BAD);
            }
        }
        int[] whats = {-1, 4, 5, Integer.MAX_VALUE, Integer.MIN_VALUE};
        for (int what : whats) {
            check.due("leaf(0, " + what + ")", book.leaf(0, what), TermBook.BAD);
        }
        int[] counts = {-1, 7, 8, Integer.MAX_VALUE, Integer.MIN_VALUE};
        for (int what : counts) {
            check.due("count(" + what + ")", book.count(what), TermBook.BAD);
        }
    }

    private static void counting(Check check) {
        TermBook book = letters(13);
        book.version();
        book.version();
        book.release(0);
        book.drop(3);
        book.drop(7);
        Check.type(book, "tape!");
        int[] due = {13, 3, 2, 1, 2, 5, 13};
        for (int what = 0; what < due.length; what++) {
            check.due("count(" + what + ")", book.count(what), due[what]);
        }
        TermBook two = new TermBook();
        for (int i = 1; i <= 9; i++) {
            Check.add(two, 2, "same" + i);
        }
        check.due("COST of 4", two.leaf(0, 2), 8);
        check.due("COST of 5", two.leaf(1, 2), 9);
        check.due("COST of all", two.count(6), 17);
    }
}
