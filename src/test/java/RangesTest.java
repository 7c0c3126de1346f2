/** Promises 10 and 11: begins, from. */
public final class RangesTest {
    private static final String[] TERMS = {
        "0b", "1a", "1ab", "1abc", "1abcdefgh", "1abcdefghi", "1abcdefgx", "1ac", "1b", "3a"
    };

    public static void main(String[] args) {
        Check check = new Check("RangesTest");
        TermBook book = new TermBook();
        for (int i = TERMS.length - 1; i >= 0; i--) {
            Check.add(book, TERMS[i].charAt(0) - '0', TERMS[i].substring(1));
        }
        range(check, book, 0, "", 1, 0);
        range(check, book, 1, "", 8, 1);
        range(check, book, 2, "", 0, 9);
        range(check, book, 3, "", 1, 9);
        range(check, book, 1, "a", 7, 1);
        range(check, book, 1, "ab", 5, 2);
        range(check, book, 1, "abcdefg", 3, 4);
        range(check, book, 1, "abcdefgh", 2, 4);
        range(check, book, 1, "abcdefghi", 1, 5);
        range(check, book, 1, "abcdefghij", 0, 6);
        range(check, book, 1, "abcdefghijklmnop", 0, 6);
        range(check, book, 1, "!", 0, 1);
        range(check, book, 1, "abb", 0, 3);
        range(check, book, 1, "c", 0, 9);
        range(check, book, 0, "a", 0, 0);
        range(check, book, 0, "c", 0, 1);
        range(check, book, 3, "b", 0, 10);
        wrongKinds(check, book);
        withoutUses(check, book);
        check.end();
    }

    private static void range(Check check, TermBook book, int kind, String text, int begins, int from) {
        book.clear();
        Check.type(book, text);
        check.due("begins(" + kind + ") of '" + text + "'", book.begins(kind), begins);
        check.due("from(" + kind + ") of '" + text + "'", book.from(kind), from);
        check.due("the tape stays", book.count(5), text.length());
    }

    private static void wrongKinds(Check check, TermBook book) {
        int[] kinds = {-1, 4, Integer.MAX_VALUE, Integer.MIN_VALUE};
        for (int kind : kinds) {
            check.due("begins(" + kind + ")", book.begins(kind), TermBook.BAD);
            check.due("from(" + kind + ")", book.from(kind), TermBook.BAD);
        }
    }

    private static void withoutUses(Check check, TermBook book) {
        book.version();
        book.drop(book.at(3));
        range(check, book, 1, "abc", 4, 3);
        book.release(0);
        range(check, book, 1, "abc", 3, 3);
        check.due("who stands there then", book.term(book.at(3), 2), 8);
    }
}
