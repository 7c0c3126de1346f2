/** The edges of promises 10 and 11: an empty tape, a range without terms, one that begins or ends the order. */
public final class RangesEdgesTest {
    public static void main(String[] args) {
        Check check = new Check("RangesEdgesTest");
        emptyTape(check);
        noTerms(check);
        whereItWould(check);
        equalAndLonger(check);
        leastAndGreatestBytes(check);
        wholeBook(check);
        withoutUses(check);
        nothingChanges(check);
        check.end();
    }

    private static void range(Check check, TermBook book, int kind, String text, int begins, int from) {
        book.clear();
        Check.type(book, text);
        String of = "(" + kind + ") of '" + text + "'";
        check.due("begins" + of, book.begins(kind), begins);
        check.due("from" + of, book.from(kind), from);
        check.due("the tape stays", book.count(5), text.length());
    }

    /** All of the kind when it is empty. */
    private static void emptyTape(Check check) {
        TermBook book = new TermBook();
        String[] terms = {"0!", "0~", "2a", "2abcdefghijklmnop", "2b", "3~~~~~~~~~~~~~~~~"};
        for (String term : terms) {
            Books.come(book, term);
        }
        range(check, book, 0, "", 2, 0);
        range(check, book, 1, "", 0, 2);
        range(check, book, 2, "", 3, 2);
        range(check, book, 3, "", 1, 5);
        book.drop(5);
        range(check, book, 3, "", 0, 5);
        book.drop(0);
        range(check, book, 0, "", 1, 0);
        book.drop(1);
        range(check, book, 0, "", 0, 0);
        range(check, book, 2, "", 3, 0);
        int[] wrong = {Integer.MIN_VALUE, -1, 4, Integer.MAX_VALUE};
        for (int kind : wrong) {
            range(check, book, kind, "", TermBook.BAD, TermBook.BAD);
            range(check, book, kind, "a", TermBook.BAD, TermBook.BAD);
        }
    }

    private static void noTerms(Check check) {
        TermBook book = new TermBook();
        for (int kind = 0; kind <= 3; kind++) {
            range(check, book, kind, "", 0, 0);
            range(check, book, kind, "!", 0, 0);
            range(check, book, kind, "~~~~~~~~~~~~~~~~", 0, 0);
        }
    }

    /** Behind all that is before the tape, when nothing begins with it. */
    private static void whereItWould(Check check) {
        TermBook book = new TermBook();
        String[] terms = {"1b", "1bb", "1d", "2b"};
        for (String term : terms) {
            Books.come(book, term);
        }
        range(check, book, 1, "a", 0, 0);
        range(check, book, 1, "b", 2, 0);
        range(check, book, 1, "ba", 0, 1);
        range(check, book, 1, "bb", 1, 1);
        range(check, book, 1, "bba", 0, 2);
        range(check, book, 1, "bc", 0, 2);
        range(check, book, 1, "c", 0, 2);
        range(check, book, 1, "d", 1, 2);
        range(check, book, 1, "d!", 0, 3);
        range(check, book, 1, "e", 0, 3);
        range(check, book, 0, "~", 0, 0);
        range(check, book, 2, "a", 0, 3);
        range(check, book, 2, "c", 0, 4);
        range(check, book, 3, "!", 0, 4);
        book.clear();
        Check.type(book, "bc");
        check.due("where it would stand", book.from(1), 2);
        int number = book.add(1);
        check.due("it stands there when it comes", book.place(number), 2);
    }

    /** One byte less, all bytes and one byte more than a text has; at each length that a text can have. */
    private static void equalAndLonger(Check check) {
        String text = "abcdefghijklmnop";
        for (int length = 1; length <= 16; length++) {
            TermBook book = new TermBook();
            Books.come(book, "1~");
            Books.come(book, "3!");
            Books.come(book, "2" + text.substring(0, length));
            Books.come(book, "2!");
            range(check, book, 2, text.substring(0, length - 1), length == 1 ? 2 : 1, length == 1 ? 1 : 2);
            range(check, book, 2, text.substring(0, length), 1, 2);
            if (length < 16) {
                range(check, book, 2, text.substring(0, length + 1), 0, 3);
            }
            range(check, book, 2, text.substring(0, length - 1) + (char) (text.charAt(length - 1) - 1), 0, 2);
            range(check, book, 2, text.substring(0, length - 1) + (char) (text.charAt(length - 1) + 1), 0, 3);
            range(check, book, 1, text.substring(0, length), 0, 0);
            range(check, book, 3, text.substring(0, length), 0, 4);
        }
    }

    private static void leastAndGreatestBytes(Check check) {
        TermBook book = new TermBook();
        String[] terms = {"0!!!!!!!!!!!!!!!!", "0!~", "0~", "0~!", "0~~~~~~~~~~~~~~~~"};
        for (String term : terms) {
            Books.come(book, term);
        }
        range(check, book, 0, "!", 2, 0);
        range(check, book, 0, "!!!!!!!!", 1, 0);
        range(check, book, 0, "!!!!!!!!!!!!!!!!", 1, 0);
        range(check, book, 0, "\"", 0, 2);
        range(check, book, 0, "}", 0, 2);
        range(check, book, 0, "~", 3, 2);
        range(check, book, 0, "~~", 1, 4);
        range(check, book, 0, "~~~~~~~~~~~~~~~~", 1, 4);
        range(check, book, 0, "~~~~~~~~~~~~~~~}", 0, 4);
    }

    /** A hundred terms that all begin with the tape, and none of them. */
    private static void wholeBook(Check check) {
        TermBook book = new TermBook();
        for (int i = 0; i < 100; i++) {
            Books.come(book, "3p" + (char) ('!' + i / 10) + (char) ('!' + i % 10));
        }
        range(check, book, 3, "", 100, 0);
        range(check, book, 3, "p", 100, 0);
        range(check, book, 3, "p!", 10, 0);
        range(check, book, 3, "p*", 10, 90);
        range(check, book, 3, "p**", 1, 99);
        range(check, book, 3, "p+", 0, 100);
        range(check, book, 3, "o", 0, 0);
        range(check, book, 3, "q", 0, 100);
        range(check, book, 2, "", 0, 0);
    }

    /** A term is in the book, and in its ranges, until it goes. */
    private static void withoutUses(Check check) {
        TermBook book = new TermBook();
        Books.come(book, "1aa");
        Books.come(book, "1ab");
        book.version();
        book.drop(0);
        range(check, book, 1, "a", 2, 0);
        range(check, book, 1, "aa", 1, 0);
        range(check, book, 1, "ab", 1, 1);
        book.release(0);
        range(check, book, 1, "a", 1, 0);
        range(check, book, 1, "aa", 0, 0);
        range(check, book, 1, "ab", 1, 0);
    }

    private static void nothingChanges(Check check) {
        for (int kind = 0; kind <= 3; kind++) {
            int asked = kind;
            // the small book's order: 0ab, 0later, five of kind 1 with ab, abc and abcdefghijklmnop, 2ab, 2b, 3zz
            int[] begins = {1, 3, 1, 0};
            int[] from = {0, 2, 7, 9};
            Twins.refused(check, "begins(" + kind + ")", Books::small, book -> book.begins(asked), begins[kind]);
            Twins.refused(check, "from(" + kind + ")", Books::small, book -> book.from(asked), from[kind]);
        }
    }
}
