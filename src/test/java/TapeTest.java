/** Promises 1 to 3: a new object, type, clear. */
public final class TapeTest {
    public static void main(String[] args) {
        Check check = new Check("TapeTest");
        newObject(check);
        typing(check);
        badBytes(check);
        fullTape(check);
        clearing(check);
        check.end();
    }

    private static void newObject(Check check) {
        TermBook book = new TermBook();
        for (int what = 0; what <= 6; what++) {
            check.due("new: count(" + what + ")", book.count(what), 0);
        }
        check.due("new: at(0)", book.at(0), TermBook.NO);
        check.due("new: leaf(0, 0)", book.leaf(0, 0), TermBook.BAD);
        check.due("new: had(0, -1)", book.had(0, -1), TermBook.BAD);
        check.due("new: clear()", book.clear(), 0);
        Check.add(book, 1, "elsewhere");
        book.version();
        TermBook second = new TermBook();
        check.due("objects have nothing in common", second.count(0) + second.count(2) + second.count(5), 0);
    }

    private static void typing(Check check) {
        TermBook book = new TermBook();
        check.due("type(ab)", book.type(Check.packed("ab"), 2), 2);
        check.due("type, high bytes are not looked at", book.type(0x0102030405060700L | 'c', 1), 3);
        check.due("type of negative bytes", book.type(-256L | 'd', 1), 4);
        check.due("type of eight", book.type(Check.packed("!~efghij"), 8), 12);
        check.due("add", book.add(0), 0);
        String text = "abcd!~efghij";
        check.due("length", book.term(0, 2), text.length());
        for (int i = 0; i < text.length(); i++) {
            check.due("byte " + i, book.term(0, 3 + i), text.charAt(i));
        }
    }

    private static void badBytes(Check check) {
        TermBook book = new TermBook();
        book.type('x', 1);
        int[] lengths = {0, -1, 9, 16, Integer.MAX_VALUE, Integer.MIN_VALUE};
        for (int n : lengths) {
            check.due("type(.., " + n + ")", book.type(Check.packed("abcdefgh"), n), TermBook.BAD);
        }
        int[] bytes = {0, 1, 32, 127, 128, 200, 255};
        for (int b : bytes) {
            check.due("type of byte " + b, book.type(b, 1), TermBook.BAD);
            check.due("byte " + b + " is the highest", book.type((long) b << 56 | 0x61616161616161L, 8), TermBook.BAD);
            check.due("byte " + b + " is the second", book.type((long) b << 8 | 'a', 2), TermBook.BAD);
        }
        check.due("nothing came", book.count(5), 1);
        check.due("type(33)", book.type(33, 1), 2);
        check.due("type(126)", book.type(126, 1), 3);
    }

    private static void fullTape(Check check) {
        TermBook book = new TermBook();
        check.due("8", book.type(Check.packed("abcdefgh"), 8), 8);
        check.due("15", book.type(Check.packed("ijklmno"), 7), 15);
        check.due("17 is FULL", book.type(Check.packed("pq"), 2), TermBook.FULL);
        check.due("BAD comes before FULL", book.type(' ', 2), TermBook.BAD);
        check.due("nothing came", book.count(5), 15);
        check.due("16", book.type('p', 1), 16);
        check.due("one more is FULL", book.type('q', 1), TermBook.FULL);
        check.due("add", book.add(3), 0);
        for (int i = 0; i < 16; i++) {
            check.due("byte " + i, book.term(0, 3 + i), 'a' + i);
        }
        check.due("byte 16", book.term(0, 19), TermBook.BAD);
    }

    private static void clearing(Check check) {
        TermBook book = new TermBook();
        Check.type(book, "abcdefghijkl");
        check.due("clear", book.clear(), 12);
        check.due("clear again", book.clear(), 0);
        check.due("count(5)", book.count(5), 0);
        check.due("add of nothing", book.add(0), TermBook.BAD);
        book.type('z', 1);
        check.due("add", book.add(0), 0);
        check.due("nothing is left of what was cleared", book.term(0, 2) * 1000 + book.term(0, 3), 1000 + 'z');
    }
}
