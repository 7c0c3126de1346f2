/** The edges of promises 1 to 3: bytes 33 .. 126, 1 .. 8 of them a call, 16 on the tape, and none. */
public final class TapeEdgesTest {
    private static final String SIXTEEN = "ABCDEFGHIJKLMNOP";

    public static void main(String[] args) {
        Check check = new Check("TapeEdgesTest");
        newObject(check);
        eachByte(check);
        eachN(check);
        bytesBehindN(check);
        leastAndGreatestLong(check);
        eachLength(check);
        badBeforeFull(check);
        clearing(check);
        check.end();
    }

    private static void newObject(Check check) {
        TermBook book = new TermBook();
        for (int what = 0; what <= 6; what++) {
            check.due("new: count(" + what + ")", book.count(what), 0);
        }
        check.due("new: at(0)", book.at(0), TermBook.NO);
        check.due("new: leaf(0, 0)", book.leaf(0, 0), TermBook.BAD);
        for (int kind = 0; kind <= 3; kind++) {
            check.due("new: find(" + kind + ")", book.find(kind), TermBook.NO);
            check.due("new: begins(" + kind + ")", book.begins(kind), 0);
            check.due("new: from(" + kind + ")", book.from(kind), 0);
        }
        for (int number = 0; number < 100; number++) {
            check.due("new: term(" + number + ", 0)", book.term(number, 0), TermBook.BAD);
            check.due("new: place(" + number + ")", book.place(number), TermBook.BAD);
        }
        for (int version = 0; version <= 6; version++) {
            check.due("new: had(" + version + ", -1)", book.had(version, -1), TermBook.BAD);
            check.due("new: release(" + version + ")", book.release(version), TermBook.BAD);
        }
        check.due("new: add(0)", book.add(0), TermBook.BAD);
        check.due("new: clear()", book.clear(), 0);
        check.due("new: version()", book.version(), 0);
    }

    /** Each byte that there is, at each place among those that are typed. */
    private static void eachByte(Check check) {
        for (int n = 1; n <= 8; n++) {
            for (int place = 0; place < n; place++) {
                for (int b = 0; b <= 255; b++) {
                    oneByte(check, n, place, b);
                }
            }
        }
    }

    private static void oneByte(Check check, int n, int place, int b) {
        long others = 0x6162636465666768L & ~(255L << 8 * place);
        TermBook book = new TermBook();
        boolean fits = b >= 33 && b <= 126;
        String call = "byte " + b + " at " + place + " of " + n;
        check.due(call, book.type(others | (long) b << 8 * place, n), fits ? n : TermBook.BAD);
        check.due(call + ": bytes on the tape", book.count(5), fits ? n : 0);
        check.due(call + ": add", book.add(0), fits ? 0 : TermBook.BAD);
        check.due(call + ": it", book.term(0, 3 + n - 1 - place), fits ? b : TermBook.BAD);
    }

    private static void eachN(Check check) {
        int[] wrong = {Integer.MIN_VALUE, -8, -1, 0, 9, 10, 16, 64, 256 + 1, Integer.MAX_VALUE};
        for (int n : wrong) {
            TermBook book = new TermBook();
            check.due("type(.., " + n + ")", book.type(Check.packed("abcdefgh"), n), TermBook.BAD);
            check.due("nothing came", book.count(5), 0);
        }
        for (int n = 1; n <= 8; n++) {
            TermBook book = new TermBook();
            check.due("type(.., " + n + ")", book.type(Check.packed("abcdefgh"), n), n);
            book.add(0);
            for (int i = 0; i < n; i++) {
                check.due("byte " + i + " of the lowest " + n, book.term(0, 3 + i), "abcdefgh".charAt(8 - n + i));
            }
            check.due("no byte more than " + n, book.term(0, 3 + n), TermBook.BAD);
        }
    }

    /** What lies above the lowest n bytes is not looked at. */
    private static void bytesBehindN(Check check) {
        int[] above = {0, 32, 127, 128, 255};
        for (int n = 1; n <= 7; n++) {
            for (int b : above) {
                long bytes = Check.packed("abcdefgh") & ~(255L << 8 * n) | (long) b << 8 * n;
                check.due("byte " + b + " above " + n, new TermBook().type(bytes, n), n);
                check.due("byte " + b + " among " + (n + 1), new TermBook().type(bytes, n + 1), TermBook.BAD);
            }
            check.due("all bits above " + n, new TermBook().type(-1L << 8 * n | Check.packed("~~~~~~~") >>> 8 * (7 - n), n), n);
        }
    }

    private static void leastAndGreatestLong(Check check) {
        long[] wrong = {Long.MIN_VALUE, Long.MAX_VALUE, -1L, 0L, 1L};
        int[] lengths = {Integer.MIN_VALUE, 0, 1, 2, 7, 8, 9, Integer.MAX_VALUE};
        for (long bytes : wrong) {
            for (int n : lengths) {
                TermBook book = new TermBook();
                book.type('x', 1);
                check.due("type(" + bytes + ", " + n + ")", book.type(bytes, n), TermBook.BAD);
                check.due("nothing came", book.count(5), 1);
            }
        }
        check.due("all 33", new TermBook().type(0x2121212121212121L, 8), 8);
        check.due("all 126", new TermBook().type(0x7e7e7e7e7e7e7e7eL, 8), 8);
        check.due("all 32", new TermBook().type(0x2020202020202020L, 8), TermBook.BAD);
        check.due("all 127", new TermBook().type(0x7f7f7f7f7f7f7f7fL, 8), TermBook.BAD);
        check.due("least long that fits in 7", new TermBook().type(Long.MIN_VALUE | 0x21212121212121L, 7), 7);
        check.due("not in 8", new TermBook().type(Long.MIN_VALUE | 0x21212121212121L, 8), TermBook.BAD);
    }

    /** Each length that the tape can have before, and each number of bytes that can come. */
    private static void eachLength(Check check) {
        for (int before = 0; before <= 16; before++) {
            for (int n = 1; n <= 8; n++) {
                TermBook book = new TermBook();
                Check.type(book, SIXTEEN.substring(0, before));
                boolean fits = before + n <= 16;
                String call = n + " bytes behind " + before;
                check.due(call, book.type(Check.packed("stuvwxyz"), n), fits ? before + n : TermBook.FULL);
                String due = SIXTEEN.substring(0, before) + (fits ? "stuvwxyz".substring(8 - n) : "");
                check.due(call + ": tape", book.count(5), due.length());
                check.due(call + ": add", book.add(2), 0);
                check.due(call + ": length", book.term(0, 2), due.length());
                for (int i = 0; i < due.length(); i++) {
                    check.due(call + ": byte " + i, book.term(0, 3 + i), due.charAt(i));
                }
                check.due(call + ": no more", book.term(0, 3 + due.length()), TermBook.BAD);
            }
        }
    }

    private static void badBeforeFull(Check check) {
        TermBook book = new TermBook();
        Check.type(book, SIXTEEN);
        check.due("a bad byte on a full tape", book.type(32, 1), TermBook.BAD);
        check.due("a bad n on a full tape", book.type('a', 0), TermBook.BAD);
        check.due("nine on a full tape", book.type(Check.packed("abcdefgh"), 9), TermBook.BAD);
        check.due("a good one on a full tape", book.type('a', 1), TermBook.FULL);
        check.due("the tape is as it was", book.clear(), 16);
        check.due("then there is room", book.type('a', 1), 1);
    }

    private static void clearing(Check check) {
        for (int length = 0; length <= 16; length++) {
            TermBook book = new TermBook();
            Check.type(book, SIXTEEN.substring(0, length));
            check.due("clear of " + length, book.clear(), length);
            check.due("bytes then", book.count(5), 0);
            check.due("clear again", book.clear(), 0);
            check.due("begins with nothing", book.add(0), TermBook.BAD);
            check.due("eight", book.type(Check.packed("qrstuvwx"), 8), 8);
            check.due("sixteen", book.type(Check.packed("qrstuvwx"), 8), 16);
            book.add(0);
            check.due("no byte is of what was cleared", book.term(0, 3) * 1000 + book.term(0, 18), 'q' * 1000 + 'x');
        }
    }
}
