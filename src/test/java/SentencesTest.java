import java.util.TreeSet;

/**
 * The document from its first line on: a method for each sentence of 'What it is' and of 'Terms', in
 * their order. What must hold of every book is read, by the public face alone, of many (Walks).
 */
public final class SentencesTest {
    private final Check check = new Check("SentencesTest");

    public static void main(String[] args) {
        SentencesTest test = new SentencesTest();
        test.aNumberForAsLong();
        test.usedFor512Calls();
        test.kindAndText();
        test.order();
        test.numberAndUses();
        test.versionsAreNumbered();
        test.versionHas();
        test.goesAtOnce();
        test.rowsOfTerms();
        test.whereItLies();
        test.parted();
        test.joinedOrHandedOver();
        test.leafAlone();
        test.shared();
        test.cost();
        test.check.end();
    }

    /** A term of the book, told as its kind's digit and its text. */
    private static String told(TermBook book, int number) {
        StringBuilder term = new StringBuilder().append(book.term(number, 0));
        int length = book.term(number, 2);
        for (int i = 0; i < length; i++) {
            term.append((char) book.term(number, 3 + i));
        }
        return term.toString();
    }

    private void terms(String name, TermBook book, String... want) {
        check.due(name + ": terms", book.count(0), want.length);
        for (int i = 0; i < want.length; i++) {
            String got = told(book, book.at(i));
            check.due(name + ": " + i + " is " + got + ", due is " + want[i], got.equals(want[i]) ? 1 : 0, 1);
        }
    }

    /** 'each a number for as long as it is used or some version that is kept has it' */
    private void aNumberForAsLong() {
        TermBook book = new TermBook();
        check.due("it comes", Books.come(book, "1long"), 0);
        check.due("a second use", Books.come(book, "1long"), 0);
        book.drop(0);
        check.due("as long as it is used", find(book, "1long"), 0);
        book.version();
        book.drop(0);
        check.due("as long as a version has it", find(book, "1long"), 0);
        Books.come(book, "1long");
        book.release(0);
        check.due("as long as it is used, again", find(book, "1long"), 0);
        book.drop(0);
        check.due("and no longer", find(book, "1long"), TermBook.NO);
    }

    private static int find(TermBook book, String term) {
        Check.type(book, term.substring(1));
        int found = book.find(term.charAt(0) - '0');
        book.clear();
        return found;
    }

    /** 'An object is used for at most 512 calls': up to the last of them it answers as at first. */
    private void usedFor512Calls() {
        TermBook used = new TermBook();
        for (int i = 0; i < 255; i++) {
            check.due("type, call " + (2 * i + 1), used.type('u', 1), 1);
            check.due("add, call " + (2 * i + 2), used.add(2), 0);
        }
        check.due("call 511: its uses", used.term(0, 1), 255);
        check.due("call 512: one less", used.drop(0), 254);

        TermBook ended = new TermBook();
        for (int version = 0; version < 256; version++) {
            check.due("version, call " + (2 * version + 1), ended.version(), version);
            check.due("release, call " + (2 * version + 2), ended.release(version), 0);
        }

        TermBook cleared = new TermBook();
        for (int i = 0; i < 256; i++) {
            check.due("type, call " + (2 * i + 1), cleared.type(Check.packed("abcdefgh"), 8), 8);
            check.due("clear, call " + (2 * i + 2), cleared.clear(), 8);
        }

        TermBook passing = new TermBook();
        for (int i = 0; i < 170; i++) {
            check.due("type", passing.type('!' + i % 94, 1), 1);
            check.due("add", passing.add(i % 4), 0);
            check.due("drop", passing.drop(0), 0);
        }
        check.due("call 511: terms", passing.count(0), 0);
        check.due("call 512: leaves", passing.count(1), 0);
    }

    /** 'A TERM has a KIND 0 .. 3 and a TEXT of 1 .. 16 bytes of 33 .. 126, collected on THE TAPE.' */
    private void kindAndText() {
        for (int kind = 0; kind <= 3; kind++) {
            for (String text : new String[] {"!", "~", "ab", "abcdefgh", "abcdefghi", "!bcdefghijklmno~"}) {
                TermBook book = new TermBook();
                for (char c : text.toCharArray()) {
                    book.type(c, 1);
                }
                check.due("add of what was collected", book.add(kind), 0);
                terms("collected", book, kind + text);
            }
        }
        Walks.all(check, "kind and text", SentencesTest::eachKindAndText);
    }

    private static void eachKindAndText(Check check, String name, TermBook book) {
        int terms = book.count(0);
        for (int i = 0; i < terms; i++) {
            String term = told(book, book.at(i));
            check.due(name + ": " + term, term.matches("[0-3][!-~]{1,16}") ? 1 : 0, 1);
        }
    }

    /** 'In their ORDER those of a lesser kind come first, of one kind by bytes (one that is the beginning ..)' */
    private void order() {
        String[] sorted = {"0~", "1!", "1!!", "1A", "1a", "1aA", "1aa", "1ab", "1b", "2!", "3!"};
        TermBook rising = new TermBook();
        TermBook falling = new TermBook();
        for (int i = 0; i < sorted.length; i++) {
            Books.come(rising, sorted[i]);
            Books.come(falling, sorted[sorted.length - 1 - i]);
        }
        terms("came in their order", rising, sorted);
        terms("came against their order", falling, sorted);
        Walks.all(check, "order", SentencesTest::eachBehindTheOther);
    }

    private static void eachBehindTheOther(Check check, String name, TermBook book) {
        int terms = book.count(0);
        String before = "";
        for (int i = 0; i < terms; i++) {
            int number = book.at(i);
            String term = told(book, number);
            check.due(name + ": " + term + " is behind " + before, before.compareTo(term) < 0 ? 1 : 0, 1);
            check.due(name + ": place of " + term, book.place(number), i);
            before = term;
        }
        check.due(name + ": no more", book.at(terms), TermBook.NO);
    }

    /** 'A term that is in the book has a NUMBER 0 .. 99 (the least that is free when it comes) and USES (0 or more).' */
    private void numberAndUses() {
        TermBook book = Books.letters(5);
        book.drop(3);
        book.drop(1);
        check.due("the least that is free", Books.come(book, "3x"), 1);
        check.due("then the next", Books.come(book, "0!"), 3);
        check.due("then a new one", Books.come(book, "2m"), 5);
        check.due("a use", book.term(1, 1), 1);
        check.due("as long as it is there it has the same", Books.come(book, "3x"), 1);
        check.due("two uses", book.term(1, 1), 2);
        Walks.all(check, "numbers", SentencesTest::eachNumber);
    }

    private static void eachNumber(Check check, String name, TermBook book) {
        int terms = book.count(0);
        int unused = 0;
        TreeSet<Integer> numbers = new TreeSet<>();
        for (int i = 0; i < terms; i++) {
            int number = book.at(i);
            numbers.add(number);
            check.due(name + ": number " + number, number >= 0 && number <= 99 ? 1 : 0, 1);
            int uses = book.term(number, 1);
            check.due(name + ": uses " + uses, uses >= 0 ? 1 : 0, 1);
            unused += uses == 0 ? 1 : 0;
        }
        check.due(name + ": no number twice", numbers.size(), terms);
        check.due(name + ": without uses", book.count(4), unused);
        int free = 0;
        while (numbers.contains(free)) {
            free++;
        }
        check.due(name + ": the least that is free", Check.add(book, 3, "another"), free);
    }

    /** 'VERSIONS are numbered from 0, as they end; at most 6 are KEPT.' */
    private void versionsAreNumbered() {
        TermBook book = Books.letters(2);
        for (int version = 0; version < 6; version++) {
            check.due("as they end", book.version(), version);
        }
        check.due("at most 6", book.version(), TermBook.FULL);
        book.release(2);
        book.release(5);
        check.due("the seventh that ends", book.version(), 6);
        check.due("the eighth that ends", book.version(), 7);
        check.due("at most 6, again", book.version(), TermBook.FULL);
        check.due("ended", book.count(2), 8);
        check.due("kept", book.count(3), 6);
        Walks.all(check, "versions", SentencesTest::eachVersion);
    }

    private static void eachVersion(Check check, String name, TermBook book) {
        int ended = book.count(2);
        int kept = 0;
        for (int version = 0; version <= ended; version++) {
            kept += book.had(version, -1) == TermBook.BAD ? 0 : 1;
        }
        check.due(name + ": one that has not ended", book.had(ended, -1), TermBook.BAD);
        check.due(name + ": kept", book.count(3), kept);
        check.due(name + ": at most 6", kept <= 6 ? 1 : 0, 1);
        check.due(name + ": the next", book.version(), kept == 6 ? TermBook.FULL : ended);
    }

    /** 'A version HAS the terms that were in the book with uses when it ended.' */
    private void versionHas() {
        TermBook book = Books.letters(3);
        book.version();
        book.drop(1);
        book.version();
        Books.come(book, "0z");
        Books.come(book, "0b");
        int[][] due = {{3, 1, 1, 1, 0}, {2, 1, 0, 1, 0}};
        for (int version = 0; version <= 1; version++) {
            for (int number = -1; number <= 3; number++) {
                check.due("had(" + version + ", " + number + ")", book.had(version, number), due[version][number + 1]);
            }
        }
        Walks.all(check, "a version that ends now", SentencesTest::versionOfNow);
    }

    private static void versionOfNow(Check check, String name, TermBook book) {
        int terms = book.count(0);
        int used = terms - book.count(4);
        int version = book.version();
        if (version == TermBook.FULL) {
            return;
        }
        check.due(name + ": how many it has", book.had(version, -1), used);
        for (int i = 0; i < terms; i++) {
            int number = book.at(i);
            check.due(name + ": had " + number, book.had(version, number), book.term(number, 1) > 0 ? 1 : 0);
        }
    }

    /** 'A term without uses that no kept version has GOES out of the book at once: its number is free.' */
    private void goesAtOnce() {
        TermBook book = Books.letters(3);
        book.drop(1);
        terms("by drop", book, "0a", "0c");
        check.due("its number is free", Books.come(book, "0d"), 1);
        book.version();
        book.version();
        book.drop(1);
        terms("two versions have it", book, "0a", "0c", "0d");
        book.release(1);
        terms("one version has it", book, "0a", "0c", "0d");
        book.release(0);
        terms("by release", book, "0a", "0c");
        check.due("its number is free again", Books.come(book, "0e"), 1);
        Walks.all(check, "who stays", SentencesTest::eachHasReasonToStay);
    }

    private static void eachHasReasonToStay(Check check, String name, TermBook book) {
        int terms = book.count(0);
        int ended = book.count(2);
        for (int i = 0; i < terms; i++) {
            int number = book.at(i);
            boolean stays = book.term(number, 1) > 0;
            for (int version = 0; version < ended && !stays; version++) {
                stays = book.had(version, number) == 1;
            }
            check.due(name + ": " + number + " is used or kept", stays ? 1 : 0, 1);
        }
    }

    /** 'LEAVES are rows of 1 .. 8 terms, all together in the order, numbered from 0.' */
    private void rowsOfTerms() {
        TermBook book = Books.letters(14);
        check.due("leaves", Check.sizes(book), 446);
        for (int i = 0; i < 3; i++) {
            check.due("first of leaf " + i, book.leaf(i, 3), 4 * i);
        }
        Walks.all(check, "rows", SentencesTest::eachRow);
    }

    private static void eachRow(Check check, String name, TermBook book) {
        int leaves = book.count(1);
        int start = 0;
        for (int i = 0; i < leaves; i++) {
            int size = book.leaf(i, 0);
            check.due(name + ": leaf " + i + " has " + size, size >= (leaves == 1 ? 1 : 3) && size <= 8 ? 1 : 0, 1);
            check.due(name + ": first of leaf " + i, book.leaf(i, 3), book.at(start));
            start += size;
        }
        check.due(name + ": all together", start, book.count(0));
        check.due(name + ": no leaf more", book.leaf(leaves, 0), TermBook.BAD);
        check.due(name + ": none before 0", book.leaf(-1, 0), TermBook.BAD);
    }

    /** 'A term that comes lies in the first leaf whose last term is behind it, else in the last one (a first leaf ..).' */
    private void whereItLies() {
        TermBook none = new TermBook();
        Books.come(none, "2first");
        check.due("a first leaf, if there is none", Check.sizes(none), 1);
        String[] comes = {"0a!", "0d!", "0g", "0z", "3!"};
        // letters without g: the leaves end with d, i and n
        long[] sizes = {545, 455, 455, 446, 446};
        for (int i = 0; i < comes.length; i++) {
            TermBook book = new TermBook();
            for (char c : "abcdefhijklmn".toCharArray()) {
                Books.come(book, "0" + c);
            }
            check.due("three leaves", Check.sizes(book), 445);
            Books.come(book, comes[i]);
            check.due("where " + comes[i] + " lies", Check.sizes(book), sizes[i]);
        }
    }

    /** 'A leaf that has 9 then is PARTED: its first 4 stay, the other 5 are a leaf behind it.' */
    private void parted() {
        TermBook book = Books.letters(8);
        check.due("8", Check.sizes(book), 8);
        Books.come(book, "0bb");
        check.due("4 and 5", Check.sizes(book), 45);
        terms("parted", book, "0a", "0b", "0bb", "0c", "0d", "0e", "0f", "0g", "0h");
        check.due("a is the first of 4", book.leaf(0, 3), 0);
        check.due("d is the first of 5", book.leaf(1, 3), 3);
    }

    /** 'When a term goes and its leaf has less than 3 terms then: ..' */
    private void joinedOrHandedOver() {
        goneThen("3 are enough", Books.letters(13), "d", 345, 0, 4, 8);
        goneThen("joined with the leaf behind", Books.letters(13), "cd", 65, 0, 8);
        goneThen("in the middle: with the leaf behind", Books.letters(13), "ef", 47, 0, 6);
        goneThen("the last one: with the one before", Books.letters(12), "ijklhg", 6, 0);
        goneThen("8 together", Books.letters(10), "ab", 8, 2);
        goneThen("9 together: the nearest behind comes", Books.letters(11), "ab", 36, 2, 5);
        TermBook before = Books.letters(9);
        for (int i = 0; i < 3; i++) {
            Books.come(before, "0!" + i);
        }
        goneThen("9 together: the nearest before comes", before, "ihg", 63, 9, 3);
    }

    private void goneThen(String name, TermBook book, String gone, long sizes, int... firsts) {
        int terms = book.count(0);
        for (char c : gone.toCharArray()) {
            check.due(name + ": " + c + " goes", book.drop(c - 'a'), 0);
        }
        check.due(name + ": sizes", Check.sizes(book), sizes);
        for (int i = 0; i < firsts.length; i++) {
            check.due(name + ": first of leaf " + i, book.leaf(i, 3), firsts[i]);
        }
        check.due(name + ": leaves", book.count(1), firsts.length);
        check.due(name + ": terms", book.count(0), terms - gone.length());
    }

    /** '(A leaf alone may have less than 3; one without terms is none.)' */
    private void leafAlone() {
        TermBook book = Books.letters(3);
        for (int left = 2; left >= 0; left--) {
            book.drop(left);
            check.due("terms", book.count(0), left);
            check.due("leaves", book.count(1), left == 0 ? 0 : 1);
            check.due("its terms", book.leaf(0, 0), left == 0 ? TermBook.BAD : left);
        }
    }

    /** 'SHARED of a leaf is how many bytes all its texts have in common at their beginning, when .. of one kind; else 0.' */
    private void shared() {
        TermBook book = new TermBook();
        String[] comes = {"1common.x", "1common.yz", "1common", "1com!", "2com"};
        int[] due = {8, 7, 6, 3, 0};
        for (int i = 0; i < comes.length; i++) {
            Books.come(book, comes[i]);
            check.due("SHARED with " + comes[i], book.leaf(0, 1), due[i]);
        }
        Walks.all(check, "SHARED", (made, name, walked) -> eachLeaf(made, name, walked, 1));
    }

    /** 'Its COST is that, and for each term how many bytes its text has more than that.' */
    private void cost() {
        TermBook book = new TermBook();
        String[] comes = {"1common.x", "1common.yz", "1com", "2com"};
        int[] due = {8, 7 + 1 + 2, 3 + 5 + 6, 8 + 9 + 3 + 3};
        for (int i = 0; i < comes.length; i++) {
            Books.come(book, comes[i]);
            check.due("COST with " + comes[i], book.leaf(0, 2), due[i]);
        }
        Walks.all(check, "COST", (made, name, walked) -> eachLeaf(made, name, walked, 2));
    }

    private static void eachLeaf(Check check, String name, TermBook book, int what) {
        int leaves = book.count(1);
        int start = 0;
        int costs = 0;
        for (int i = 0; i < leaves; i++) {
            int size = book.leaf(i, 0);
            String[] terms = new String[size];
            for (int k = 0; k < size; k++) {
                terms[k] = told(book, book.at(start + k));
            }
            start += size;
            int shared = sharedBy(terms);
            int cost = costOf(terms, shared);
            costs += cost;
            check.due(name + ": leaf(" + i + ", " + what + ")", book.leaf(i, what), what == 1 ? shared : cost);
        }
        check.due(name + ": all leaves' COST", book.count(6), costs);
    }

    private static int sharedBy(String[] terms) {
        int same = terms[0].length();
        for (String term : terms) {
            int length = 0;
            while (length < Math.min(same, term.length()) && term.charAt(length) == terms[0].charAt(length)) {
                length++;
            }
            same = length;
        }
        // a term is told with its kind first: who have not that in common have nothing
        return Math.max(same - 1, 0);
    }

    private static int costOf(String[] terms, int shared) {
        int cost = shared;
        for (String term : terms) {
            cost += term.length() - 1 - shared;
        }
        return cost;
    }
}
