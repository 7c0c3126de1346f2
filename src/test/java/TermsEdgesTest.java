/** The edges of promises 4 to 9: kinds 0 .. 3, texts of 1 .. 16, numbers 0 .. 99, uses down to none. */
public final class TermsEdgesTest {
    private static final int LEAST = Integer.MIN_VALUE;
    private static final int GREATEST = Integer.MAX_VALUE;

    public static void main(String[] args) {
        Check check = new Check("TermsEdgesTest");
        kinds(check);
        lengths(check);
        orderOfBytes(check);
        tapeAfterAdd(check);
        hundredAnd101st(check);
        leastFree(check);
        numberOfOneThatStays(check);
        usesDownToNone(check);
        finding(check);
        whats(check);
        places(check);
        check.end();
    }

    private static void kinds(Check check) {
        int[] asked = {LEAST, -2, -1, 0, 1, 2, 3, 4, 5, GREATEST};
        for (int kind : asked) {
            boolean is = kind >= 0 && kind <= 3;
            TermBook book = new TermBook();
            book.type('k', 1);
            check.due("find(" + kind + ")", book.find(kind), is ? TermBook.NO : TermBook.BAD);
            check.due("begins(" + kind + ")", book.begins(kind), is ? 0 : TermBook.BAD);
            check.due("from(" + kind + ")", book.from(kind), is ? 0 : TermBook.BAD);
            check.due("add(" + kind + ")", book.add(kind), is ? 0 : TermBook.BAD);
            check.due("terms", book.count(0), is ? 1 : 0);
            check.due("its kind", book.term(0, 0), is ? kind : TermBook.BAD);
            book.type('k', 1);
            check.due("find(" + kind + ") then", book.find(kind), is ? 0 : TermBook.BAD);
            check.due("begins(" + kind + ") then", book.begins(kind), is ? 1 : TermBook.BAD);
        }
    }

    private static void lengths(Check check) {
        String text = "abcdefghijklmnop";
        TermBook book = new TermBook();
        check.due("no byte", book.add(0), TermBook.BAD);
        for (int length = 1; length <= 16; length++) {
            check.due("add of " + length, Books.come(book, "0" + text.substring(0, length)), length - 1);
        }
        for (int length = 1; length <= 16; length++) {
            int number = length - 1;
            check.due("length of " + length, book.term(number, 2), length);
            check.due("last byte of " + length, book.term(number, 2 + length), text.charAt(length - 1));
            check.due("none behind it", book.term(number, 3 + length), TermBook.BAD);
            check.due("a beginning comes first", book.place(number), number);
        }
        check.due("all 16 and the last byte another", Books.come(book, "0abcdefghijklmno!"), 16);
        check.due("it is before that with p, behind that of 15", book.place(16), 15);
    }

    /** Each of these is the next behind the one before it. */
    private static void orderOfBytes(Check check) {
        String[] sorted = {
            "0!", "0!!", "0!!!!!!!!", "0!!!!!!!!!", "0!!!!!!!!!!!!!!!!", "0!!!!!!!!!!!!!!!~", "0!!!!!!!!~",
            "0!!!!!!!\"", "0!~", "0\"", "0}~~~~~~~~~~~~~~~", "0~", "0~~~~~~~~", "0~~~~~~~~!", "0~~~~~~~~~~~~~~~}",
            "0~~~~~~~~~~~~~~~~", "1!", "1~~~~~~~~~~~~~~~~", "2!", "2~", "3!", "3~~~~~~~~~~~~~~~~"
        };
        for (int step : new int[] {1, 3, 5, 7, 9, 13, 15, 17, 19, 21}) {
            TermBook book = new TermBook();
            for (int i = 0; i < sorted.length; i++) {
                int which = i * step % sorted.length;
                check.due("add " + sorted[which], Books.come(book, sorted[which]), i);
            }
            for (int i = 0; i < sorted.length; i++) {
                int which = i * step % sorted.length;
                check.due("place of " + sorted[which], book.place(i), which);
                check.due("at(" + which + ")", book.at(which), i);
            }
        }
    }

    private static void tapeAfterAdd(Check check) {
        TermBook book = new TermBook();
        tapeAfter(check, book, "a", 0, 0);
        tapeAfter(check, book, "a", 0, 0);
        tapeAfter(check, book, "a", -1, TermBook.BAD);
        tapeAfter(check, book, "a", 4, TermBook.BAD);
        tapeAfter(check, book, "a", LEAST, TermBook.BAD);
        tapeAfter(check, book, "a", GREATEST, TermBook.BAD);
        tapeAfter(check, book, "", 0, TermBook.BAD);
        tapeAfter(check, book, "", 4, TermBook.BAD);
        tapeAfter(check, book, "abcdefghijklmnop", 4, TermBook.BAD);
        tapeAfter(check, book, "abcdefghijklmnop", 3, 1);
        TermBook full = Books.hundred();
        tapeAfter(check, full, "abcdefghijklmnop", 3, TermBook.FULL);
        tapeAfter(check, full, "a", 0, TermBook.FULL);
        tapeAfter(check, full, "a", 4, TermBook.BAD);
        tapeAfter(check, full, "", 0, TermBook.BAD);
        tapeAfter(check, full, "!!", 0, 0);
    }

    private static void tapeAfter(Check check, TermBook book, String text, int kind, int want) {
        Check.type(book, text);
        check.due("bytes before add", book.count(5), text.length());
        check.due("add(" + kind + ") of '" + text + "'", book.add(kind), want);
        check.due("the tape is empty then", book.count(5), 0);
        check.due("and has nothing to add", book.add(0), TermBook.BAD);
        check.due("and its next byte is its first", book.type('z', 1), 1);
        book.clear();
    }

    private static void hundredAnd101st(Check check) {
        TermBook book = Books.many(98);
        check.due("the 99th", Books.come(book, "3y"), 98);
        check.due("the 100th", Books.come(book, "3z"), 99);
        check.due("the 101st", Books.come(book, "3x"), TermBook.FULL);
        check.due("terms", book.count(0), 100);
        check.due("the first of all has a use more", Books.come(book, "0!!"), 0);
        check.due("the last of all has a use more", Books.come(book, "3z"), 99);
        check.due("its uses", book.term(99, 1), 2);
        check.due("the 99th goes", book.drop(98), 0);
        check.due("the 101st that was is the 100th", Books.come(book, "3x"), 98);
        check.due("another is the 101st", Books.come(book, "3y"), TermBook.FULL);
        check.due("99 stays, it had two", book.drop(99), 1);
        check.due("still the 101st", Books.come(book, "3y"), TermBook.FULL);
        check.due("99 goes", book.drop(99), 0);
        check.due("99 is no more", book.term(99, 0), TermBook.BAD);
        check.due("place of 99", book.place(99), TermBook.BAD);
        check.due("drop of 99", book.drop(99), TermBook.BAD);
        check.due("99 is free", Books.come(book, "3y"), 99);
        check.due("100 is no number", book.term(100, 0), TermBook.BAD);
        check.due("at(99)", book.at(99), 99);
        check.due("at(100)", book.at(100), TermBook.NO);
    }

    private static void leastFree(Check check) {
        TermBook book = Books.hundred();
        int[] free = {99, 0, 57, 1, 98};
        for (int number : free) {
            check.due("drop(" + number + ")", book.drop(number), 0);
        }
        int[] comes = {0, 1, 57, 98, 99, TermBook.FULL};
        for (int i = 0; i < comes.length; i++) {
            check.due("the least that is free", Books.come(book, "2new" + i), comes[i]);
        }
        check.due("0 is free again", book.drop(0), 0);
        check.due("one that is there needs none", Books.come(book, "2new1"), 1);
        check.due("0 is still free", Books.come(book, "3last"), 0);
        TermBook alone = new TermBook();
        check.due("the first number", Books.come(alone, "0a"), 0);
        alone.drop(0);
        check.due("the first number again", Books.come(alone, "3b"), 0);
        check.due("it is another term", alone.term(0, 0) * 1000 + alone.term(0, 3), 3000 + 'b');
    }

    /** A number is not free as long as a kept version has its term. */
    private static void numberOfOneThatStays(Check check) {
        TermBook book = new TermBook();
        Books.come(book, "0a");
        Books.come(book, "0b");
        book.version();
        check.due("drop", book.drop(0), 0);
        check.due("0 is not free", Books.come(book, "0c"), 2);
        check.due("a is where it was", Books.come(book, "0a"), 0);
        check.due("it has one use", book.term(0, 1), 1);
        book.drop(0);
        check.due("it goes", book.release(0), 1);
        check.due("0 is free", Books.come(book, "0d"), 0);
    }

    private static void usesDownToNone(Check check) {
        TermBook book = new TermBook();
        for (int uses = 1; uses <= 3; uses++) {
            Books.come(book, "2u");
            check.due("uses", book.term(0, 1), uses);
        }
        check.due("drop of the third", book.drop(0), 2);
        check.due("drop of the second", book.drop(0), 1);
        check.due("it is there", book.count(0), 1);
        check.due("with a use", book.count(4), 0);
        check.due("drop of the last", book.drop(0), 0);
        check.due("it is not there", book.count(0), 0);
        check.due("nor among those without uses", book.count(4), 0);
        check.due("drop of none", book.drop(0), TermBook.BAD);
        Books.come(book, "2u");
        book.version();
        check.due("drop of the last, kept", book.drop(0), 0);
        check.due("it is there", book.count(0), 1);
        check.due("without uses", book.count(4), 1);
        check.due("drop of none, kept", book.drop(0), TermBook.BAD);
        check.due("uses", book.term(0, 1), 0);
        check.due("still there", book.count(0), 1);
    }

    private static void finding(Check check) {
        TermBook book = new TermBook();
        Books.come(book, "1abcdefgh");
        Books.come(book, "1abcdefghi");
        Books.come(book, "1abcdefghijklmnop");
        String[] texts = {"abcdefg", "abcdefgh", "abcdefghi", "abcdefghij", "abcdefghijklmno", "abcdefghijklmnop", "abcdefghijklmnoq", "abcdefgi"};
        int[] due = {TermBook.NO, 0, 1, TermBook.NO, TermBook.NO, 2, TermBook.NO, TermBook.NO};
        for (int i = 0; i < texts.length; i++) {
            Check.type(book, texts[i]);
            check.due("find(1) of " + texts[i], book.find(1), due[i]);
            check.due("find(0) of " + texts[i], book.find(0), TermBook.NO);
            check.due("find(2) of " + texts[i], book.find(2), TermBook.NO);
            check.due("find(-1) of " + texts[i], book.find(-1), TermBook.BAD);
            check.due("the tape stays", book.clear(), texts[i].length());
        }
        check.due("find has brought nothing", book.count(0), 3);
        check.due("and used nothing", book.term(0, 1) + book.term(1, 1) + book.term(2, 1), 3);
    }

    private static void whats(Check check) {
        TermBook book = new TermBook();
        Books.come(book, "3~");
        Books.come(book, "0!bcdefghijklmno~");
        int[] asked = {LEAST, LEAST + 1, LEAST + 2, LEAST + 3, LEAST + 4, -3, -2, -1, 0, 1, 2, 3, 4, 18, 19, 20, GREATEST - 1, GREATEST};
        int bad = TermBook.BAD;
        int[] ofOne = {bad, bad, bad, bad, bad, bad, bad, bad, 3, 1, 1, 126, bad, bad, bad, bad, bad, bad};
        int[] of16 = {bad, bad, bad, bad, bad, bad, bad, bad, 0, 1, 16, 33, 'b', 126, bad, bad, bad, bad};
        for (int i = 0; i < asked.length; i++) {
            check.due("term(0, " + asked[i] + ")", book.term(0, asked[i]), ofOne[i]);
            check.due("term(1, " + asked[i] + ")", book.term(1, asked[i]), of16[i]);
            check.due("term(2, " + asked[i] + ")", book.term(2, asked[i]), bad);
            check.due("term(-1, " + asked[i] + ")", book.term(-1, asked[i]), bad);
            check.due("term(100, " + asked[i] + ")", book.term(100, asked[i]), bad);
            check.due("term(least, " + asked[i] + ")", book.term(LEAST, asked[i]), bad);
            check.due("term(greatest, " + asked[i] + ")", book.term(GREATEST, asked[i]), bad);
        }
    }

    private static void places(Check check) {
        int[] sizes = {0, 1, 2, 8, 9, 99, 100};
        for (int size : sizes) {
            TermBook book = Books.many(size);
            int[] asked = {LEAST, -2, -1, 0, 1, size - 2, size - 1, size, size + 1, 99, 100, 101, GREATEST};
            for (int i : asked) {
                boolean there = i >= 0 && i < size;
                check.due("at(" + i + ") of " + size, book.at(i), there ? i : TermBook.NO);
                check.due("place(" + i + ") of " + size, book.place(i), there ? i : TermBook.BAD);
            }
        }
        TermBook book = Books.many(3);
        book.drop(0);
        check.due("place of one that went", book.place(0), TermBook.BAD);
        check.due("the first now", book.at(0), 1);
        check.due("the last now", book.at(1), 2);
        check.due("behind it", book.at(2), TermBook.NO);
        check.due("place of the greatest number", book.place(2), 1);
    }
}
