/** Promises 4 to 9: add, drop, find, term, at, place. */
public final class TermsTest {
    public static void main(String[] args) {
        Check check = new Check("TermsTest");
        adding(check);
        leastNumber(check);
        hundred(check);
        dropping(check);
        finding(check);
        telling(check);
        order(check);
        check.end();
    }

    private static void adding(Check check) {
        TermBook book = new TermBook();
        int[] kinds = {-1, 4, Integer.MAX_VALUE, Integer.MIN_VALUE};
        for (int kind : kinds) {
            book.type('a', 1);
            check.due("add(" + kind + ")", book.add(kind), TermBook.BAD);
            check.due("the tape is empty then", book.count(5), 0);
        }
        check.due("add of an empty tape", book.add(0), TermBook.BAD);
        check.due("no term came", book.count(0), 0);
        for (int kind = 0; kind < 4; kind++) {
            check.due("add(" + kind + ")", Check.add(book, kind, "a"), kind);
            check.due("the tape is empty then", book.count(5), 0);
        }
        check.due("add again", Check.add(book, 2, "a"), 2);
        check.due("a use more", book.term(2, 1), 2);
        check.due("others' uses stay", book.term(1, 1), 1);
        check.due("terms", book.count(0), 4);
        check.due("a longer one is another", Check.add(book, 2, "aa"), 4);
        check.due("sixteen bytes", Check.add(book, 2, "abcdefghijklmnop"), 5);
        check.due("another last byte", Check.add(book, 2, "abcdefghijklmnoq"), 6);
        check.due("the same again", Check.add(book, 2, "abcdefghijklmnop"), 5);
    }

    private static void leastNumber(Check check) {
        TermBook book = new TermBook();
        for (int i = 0; i < 6; i++) {
            Check.add(book, 0, "t" + i);
        }
        book.drop(4);
        book.drop(1);
        check.due("least free", Check.add(book, 0, "x"), 1);
        check.due("next free", Check.add(book, 0, "y"), 4);
        check.due("then a new one", Check.add(book, 0, "z"), 6);
        check.due("who came has one use", book.term(1, 1), 1);
    }

    private static void hundred(Check check) {
        TermBook book = new TermBook();
        for (int i = 0; i < 100; i++) {
            check.due("add " + i, Check.add(book, i % 4, "n" + (char) ('!' + i * 37 % 90) + i), i);
        }
        check.due("the 101st", Check.add(book, 0, "more"), TermBook.FULL);
        check.due("the tape is empty then", book.count(5), 0);
        book.type('x', 1);
        check.due("BAD comes before FULL", book.add(4), TermBook.BAD);
        check.due("one that is there", Check.add(book, 3, "n" + (char) ('!' + 99 * 37 % 90) + 99), 99);
        check.due("its uses", book.term(99, 1), 2);
        check.due("terms", book.count(0), 100);
        check.due("version", book.version(), 0);
        check.due("drop", book.drop(42), 0);
        check.due("without uses, but kept: FULL", Check.add(book, 0, "more"), TermBook.FULL);
        check.due("release", book.release(0), 1);
        check.due("now it comes", Check.add(book, 0, "more"), 42);
        check.due("at(99)", book.at(99) >= 0 ? 1 : 0, 1);
        check.due("at(100)", book.at(100), TermBook.NO);
    }

    private static void dropping(Check check) {
        TermBook book = new TermBook();
        Check.add(book, 1, "a");
        Check.add(book, 1, "a");
        int[] numbers = {-1, 1, 99, 100, Integer.MAX_VALUE, Integer.MIN_VALUE};
        for (int number : numbers) {
            check.due("drop(" + number + ")", book.drop(number), TermBook.BAD);
        }
        check.due("drop", book.drop(0), 1);
        check.due("it stays", book.count(0), 1);
        check.due("version", book.version(), 0);
        check.due("drop of a kept one", book.drop(0), 0);
        check.due("it stays", book.count(0), 1);
        check.due("it has none to drop", book.drop(0), TermBook.BAD);
        check.due("it is used again", Check.add(book, 1, "a"), 0);
        check.due("release, it has a use", book.release(0), 0);
        check.due("drop of the last use", book.drop(0), 0);
        check.due("it is gone", book.count(0), 0);
        check.due("and its number", book.drop(0), TermBook.BAD);
    }

    private static void finding(Check check) {
        TermBook book = new TermBook();
        Check.add(book, 0, "abc");
        Check.add(book, 3, "ab");
        check.due("find of an empty tape", book.find(0), TermBook.NO);
        Check.type(book, "ab");
        check.due("find(0) of a beginning", book.find(0), TermBook.NO);
        check.due("find(3)", book.find(3), 1);
        check.due("find(4)", book.find(4), TermBook.BAD);
        check.due("find(-1)", book.find(-1), TermBook.BAD);
        check.due("the tape stays", book.count(5), 2);
        book.type('c', 1);
        check.due("find(0)", book.find(0), 0);
        check.due("find(3) of a longer one", book.find(3), TermBook.NO);
        book.version();
        book.drop(0);
        check.due("find of one without uses", book.find(0), 0);
        book.release(0);
        check.due("find of one that went", book.find(0), TermBook.NO);
    }

    private static void telling(Check check) {
        TermBook book = new TermBook();
        Check.add(book, 2, "abcdefghi");
        Check.add(book, 2, "abcdefghi");
        check.due("kind", book.term(0, 0), 2);
        check.due("uses", book.term(0, 1), 2);
        check.due("bytes", book.term(0, 2), 9);
        check.due("first byte", book.term(0, 3), 'a');
        check.due("eighth byte", book.term(0, 10), 'h');
        check.due("ninth byte", book.term(0, 11), 'i');
        int[] whats = {-1, 12, 19, 1000, Integer.MAX_VALUE, Integer.MIN_VALUE};
        for (int what : whats) {
            check.due("term(0, " + what + ")", book.term(0, what), TermBook.BAD);
        }
        int[] numbers = {-1, 1, 99, 100, Integer.MAX_VALUE, Integer.MIN_VALUE};
        for (int number : numbers) {
            check.due("term(" + number + ", 0)", book.term(number, 0), TermBook.BAD);
            check.due("place(" + number + ")", book.place(number), TermBook.BAD);
        }
        book.version();
        book.drop(0);
        book.drop(0);
        check.due("uses of a kept one", book.term(0, 1), 0);
        book.release(0);
        check.due("one that went", book.term(0, 0), TermBook.BAD);
        check.due("place of one that went", book.place(0), TermBook.BAD);
        Check.add(book, 1, "z");
        check.due("what comes has nothing of what went", book.term(0, 4), TermBook.BAD);
    }

    private static void order(Check check) {
        String[] sorted = {"0!", "0~~", "1a", "1aa", "1abcdefgh", "1abcdefghi", "1abcdefghij", "1abd", "1b", "2A", "2a", "3!"};
        int[] comes = {7, 0, 11, 4, 2, 9, 5, 1, 10, 3, 6, 8};
        TermBook book = new TermBook();
        for (int i : comes) {
            Check.add(book, sorted[i].charAt(0) - '0', sorted[i].substring(1));
        }
        for (int number = 0; number < comes.length; number++) {
            check.due("at(" + comes[number] + ")", book.at(comes[number]), number);
            check.due("place(" + number + ")", book.place(number), comes[number]);
        }
        int[] places = {12, -1, 100, Integer.MAX_VALUE, Integer.MIN_VALUE};
        for (int place : places) {
            check.due("at(" + place + ")", book.at(place), TermBook.NO);
        }
        book.drop(1);
        check.due("place after one went", book.place(0), 6);
        check.due("at after one went", book.at(0), 7);
        check.due("at the end", book.at(11), TermBook.NO);
    }
}
