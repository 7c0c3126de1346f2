/** Books to begin a test with: without anything, with something of each sort, and with all that a book can have. */
final class Books {
    /** Ten terms, number 2 of them without uses; versions 1 and 2 of three are kept; "ab" is on the tape. */
    static final String[] SMALL = {
        "1ab", "1abc", "1b", "0ab", "2ab", "3zz", "1abcdefghijklmnop", "1ac", "2b", "0later"
    };
    static final int SMALL_UNUSED = 2;
    static final int FULL_UNUSED = 50;

    private Books() {
    }

    interface Making {
        TermBook book();
    }

    static TermBook empty() {
        return new TermBook();
    }

    static TermBook small() {
        TermBook book = new TermBook();
        for (int i = 0; i < 9; i++) {
            come(book, SMALL[i]);
        }
        book.version();
        come(book, SMALL[9]);
        book.version();
        book.release(0);
        book.drop(SMALL_UNUSED);
        book.version();
        Check.type(book, "ab");
        return book;
    }

    /** A hundred terms, number 50 without uses; versions 0 to 5 are kept; 16 bytes are on the tape. */
    static TermBook full() {
        TermBook book = hundred();
        book.version();
        book.drop(FULL_UNUSED);
        for (int i = 1; i < 6; i++) {
            book.version();
        }
        Check.type(book, "abcdefghijklmnop");
        return book;
    }

    /** Numbers 0 .. 99 are '!!', '!"', .. of kinds 0, 0, .., 1, .. 25 each: their order is that of the numbers. */
    static TermBook hundred() {
        return many(100);
    }

    static TermBook many(int n) {
        TermBook book = new TermBook();
        for (int i = 0; i < n; i++) {
            come(book, manyName(i));
        }
        return book;
    }

    static String manyName(int i) {
        return "" + (i / 25) + (char) ('!' + i / 10) + (char) ('!' + i % 10);
    }

    /** Numbers 0, 1, .. are 'a', 'b', .. of kind 0. */
    static TermBook letters(int n) {
        TermBook book = new TermBook();
        for (int i = 0; i < n; i++) {
            come(book, "0" + (char) ('a' + i));
        }
        return book;
    }

    /** A term told as its kind's digit and its text; the tape must be empty. */
    static int come(TermBook book, String term) {
        Check.type(book, term.substring(1));
        return book.add(term.charAt(0) - '0');
    }
}
