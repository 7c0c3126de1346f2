/** What the project's tests have in common: answers compared, texts typed, an exit code at the end. */
final class Check {
    private final String test;
    private int made;
    private int wrong;

    Check(String test) {
        this.test = test;
    }

    void due(String call, long got, long want) {
        made++;
        if (got != want) {
            wrong++;
            System.out.println(test + ": " + call + " answered " + got + ", due is " + want);
        }
    }

    void end() {
        System.out.println(test + ": " + made + " answers, " + wrong + " wrong");
        if (wrong != 0 || made == 0) {
            System.exit(1);
        }
    }

    /** A text's bytes as type wants them: the last one lowest. */
    static long packed(String text) {
        long bytes = 0;
        for (int i = 0; i < text.length(); i++) {
            bytes = bytes << 8 | text.charAt(i);
        }
        return bytes;
    }

    /** Types a text of any length, eight bytes a call. */
    static void type(TermBook book, String text) {
        for (int i = 0; i < text.length(); i += 8) {
            String piece = text.substring(i, Math.min(i + 8, text.length()));
            book.type(packed(piece), piece.length());
        }
    }

    static int add(TermBook book, int kind, String text) {
        book.clear();
        type(book, text);
        return book.add(kind);
    }

    /** The sizes of all leaves, as digits, the first leaf's first. */
    static long sizes(TermBook book) {
        long digits = 0;
        for (int i = 0; i < book.count(1); i++) {
            digits = digits * 10 + book.leaf(i, 0);
        }
        return digits;
    }
}
