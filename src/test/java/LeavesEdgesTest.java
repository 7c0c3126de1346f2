/** The edges of promises 15 and 16: 8 and 9 in a leaf, 3 and 2, 8 and 9 together, a leaf alone, none. */
public final class LeavesEdgesTest {
    private static final int LEAST = Integer.MIN_VALUE;
    private static final int GREATEST = Integer.MAX_VALUE;

    public static void main(String[] args) {
        Check check = new Check("LeavesEdgesTest");
        growing(check);
        ninthAnywhere(check);
        partedAmongOthers(check);
        whichLeaf(check);
        threeAndTwo(check);
        togetherEightOrNine(check);
        togetherEightOrNineBefore(check);
        behindRatherThanBefore(check);
        aloneDownToNone(check);
        aloneAfterJoining(check);
        usesAreNoGoing(check);
        sharedOfKinds(check);
        sharedOfBytes(check);
        leavesThatThereAre(check);
        whats(check);
        counts(check);
        check.end();
    }

    private static void drop(Check check, TermBook book, int number, long sizes) {
        check.due("drop(" + number + ")", book.drop(number), 0);
        check.due("leaves after drop(" + number + ")", Check.sizes(book), sizes);
    }

    private static void come(Check check, TermBook book, String term, long sizes) {
        check.due("add of " + term, Books.come(book, term) >= 0 ? 1 : 0, 1);
        check.due("leaves after add of " + term, Check.sizes(book), sizes);
    }

    private static void growing(Check check) {
        TermBook book = new TermBook();
        long[] sizes = {1, 2, 3, 4, 5, 6, 7, 8, 45, 46, 47, 48, 445, 446, 447, 448, 4445};
        for (int i = 0; i < sizes.length; i++) {
            come(check, book, "0" + (char) ('a' + i), sizes[i]);
        }
        TermBook falling = new TermBook();
        long[] fallingSizes = {1, 2, 3, 4, 5, 6, 7, 8, 45, 55, 65, 75, 85, 455, 555};
        for (int i = 0; i < fallingSizes.length; i++) {
            come(check, falling, "0" + (char) ('z' - i), fallingSizes[i]);
        }
    }

    /** Wherever the ninth lies, 4 stay and 5 are behind; who those are, its place decides. */
    private static void ninthAnywhere(Check check) {
        for (int place = 0; place <= 8; place++) {
            TermBook book = new TermBook();
            for (int i = 0; i <= 8; i++) {
                if (i != place) {
                    Books.come(book, "0" + (char) ('a' + i));
                }
            }
            check.due("eight", Check.sizes(book), 8);
            come(check, book, "0" + (char) ('a' + place), 45);
            check.due("ninth at " + place + ": its place", book.place(8), place);
            check.due("ninth at " + place + ": first of the first", book.leaf(0, 3), place == 0 ? 8 : 0);
            check.due("ninth at " + place + ": first of the second", book.leaf(1, 3), place == 4 ? 8 : place < 4 ? 3 : 4);
            check.due("no third", book.leaf(2, 0), TermBook.BAD);
        }
    }

    /** Of three leaves the first, the middle and the last one has 9. */
    private static void partedAmongOthers(Check check) {
        String[] from = {"0!", "0dd", "0z"};
        long[][] sizes = {
            {545, 645, 745, 845, 4545},
            {455, 465, 475, 485, 4455},
            {446, 447, 448, 4445, 4446}
        };
        for (int k = 0; k < from.length; k++) {
            TermBook book = Books.letters(13);
            check.due("three leaves", Check.sizes(book), 445);
            for (int i = 0; i < 5; i++) {
                come(check, book, from[k] + (char) ('a' + i), sizes[k][i]);
            }
        }
    }

    /** The first leaf whose last term is behind it, else the last one. */
    private static void whichLeaf(Check check) {
        String[] terms = {"0!", "0a!", "0cz", "0d!", "0dz", "0e!", "0hz", "0i!", "0ly", "0m!", "0zz", "1!", "3~"};
        long[] sizes = {545, 545, 545, 455, 455, 455, 446, 446, 446, 446, 446, 446, 446};
        for (int i = 0; i < terms.length; i++) {
            // d, h and m are the last ones: d! and dz are behind d, so they lie in the second leaf
            come(check, letters445(), terms[i], sizes[i]);
        }
        TermBook book = letters445();
        come(check, book, "0dz", 455);
        check.due("between two leaves it is the first of the latter", book.leaf(1, 3), 13);
        come(check, book, "0d", 455);
        check.due("one that is there lies where it was", book.term(3, 1), 2);
    }

    private static TermBook letters445() {
        return Books.letters(13);
    }

    private static void threeAndTwo(Check check) {
        TermBook first = letters445();
        drop(check, first, 0, 345);
        drop(check, first, 3, 65);
        check.due("first of the joined", first.leaf(0, 3), 1);
        check.due("first of the next", first.leaf(1, 3), 8);
        TermBook middle = letters445();
        drop(check, middle, 5, 435);
        drop(check, middle, 4, 47);
        check.due("first of the first", middle.leaf(0, 3), 0);
        check.due("first of the joined", middle.leaf(1, 3), 6);
        TermBook last = letters445();
        drop(check, last, 12, 444);
        drop(check, last, 8, 443);
        drop(check, last, 10, 46);
        check.due("first of the joined", last.leaf(1, 3), 4);
        check.due("no third", last.leaf(2, 3), TermBook.BAD);
    }

    /** 2 and 5, 2 and 6: joined; 2 and 7, 2 and 8: the nearest of the leaf behind comes. */
    private static void togetherEightOrNine(Check check) {
        for (int other = 5; other <= 8; other++) {
            TermBook book = Books.letters(4 + other);
            check.due("4 and " + other, Check.sizes(book), 40 + other);
            drop(check, book, 1, 30 + other);
            boolean joined = other <= 6;
            drop(check, book, 3, joined ? 2 + other : 30 + other - 1);
            check.due("first of the first", book.leaf(0, 3), 0);
            check.due("first of the second", book.leaf(1, 3), joined ? TermBook.BAD : 5);
            check.due("the order is the same", book.at(2), 4);
        }
    }

    private static void togetherEightOrNineBefore(Check check) {
        for (int other = 4; other <= 8; other++) {
            TermBook book = Books.letters(9);
            for (int i = 4; i < other; i++) {
                Books.come(book, "0!" + i);
            }
            check.due(other + " and 5", Check.sizes(book), other * 10 + 5);
            drop(check, book, 6, other * 10 + 4);
            drop(check, book, 8, other * 10 + 3);
            boolean joined = other <= 6;
            drop(check, book, 4, joined ? other + 2 : (other - 1) * 10 + 3);
            check.due("first of the first", book.leaf(0, 3), other == 4 ? 0 : 9);
            check.due("first of the second", book.leaf(1, 3), joined ? TermBook.BAD : 3);
            check.due("the order is the same", book.at(other - 1), 3);
        }
    }

    /** A leaf between two others looks behind, also where it could be joined with the one before it alone. */
    private static void behindRatherThanBefore(Check check) {
        TermBook book = letters445();
        come(check, book, "0n", 446);
        come(check, book, "0o", 447);
        drop(check, book, 4, 437);
        drop(check, book, 7, 436);
        check.due("the nearest of the leaf behind came", book.leaf(2, 3), 9);
        check.due("the leaf's first is the same", book.leaf(1, 3), 5);
        drop(check, book, 6, 48);
        check.due("2 and 6 were joined", book.leaf(1, 3), 5);
        TermBook first = letters445();
        for (int i = 0; i < 3; i++) {
            Books.come(first, "0e" + i);
        }
        check.due("4, 7 and 5", Check.sizes(first), 475);
        drop(check, first, 0, 375);
        drop(check, first, 1, 365);
        check.due("e came to the first leaf", first.leaf(1, 3), 13);
    }

    private static void aloneDownToNone(Check check) {
        TermBook book = Books.letters(4);
        drop(check, book, 3, 3);
        drop(check, book, 0, 2);
        drop(check, book, 2, 1);
        check.due("its first", book.leaf(0, 3), 1);
        check.due("leaves", book.count(1), 1);
        drop(check, book, 1, 0);
        check.due("leaves", book.count(1), 0);
        check.due("their COST", book.count(6), 0);
        for (int what = 0; what <= 3; what++) {
            check.due("leaf(0, " + what + ")", book.leaf(0, what), TermBook.BAD);
        }
        come(check, book, "2q", 1);
        check.due("a first leaf", book.leaf(0, 3), 0);
        drop(check, book, 0, 0);
        come(check, book, "1q", 1);
    }

    /** Two leaves become one, that goes down to none and is one again, that is parted. */
    private static void aloneAfterJoining(Check check) {
        TermBook book = Books.letters(9);
        drop(check, book, 0, 35);
        drop(check, book, 1, 7);
        check.due("leaves", book.count(1), 1);
        long[] sizes = {6, 5, 4, 3, 2, 1, 0};
        for (int i = 0; i < 7; i++) {
            drop(check, book, 2 + i, sizes[i]);
        }
        long[] again = {1, 2, 3, 4, 5, 6, 7, 8, 45};
        for (int i = 0; i < again.length; i++) {
            come(check, book, "3" + (char) ('a' + i), again[i]);
        }
    }

    /** Leaves change when a term goes, not when it has no uses any more. */
    private static void usesAreNoGoing(Check check) {
        TermBook book = Books.letters(9);
        book.version();
        drop(check, book, 0, 45);
        drop(check, book, 1, 45);
        check.due("the first is still the first", book.leaf(0, 3), 0);
        come(check, book, "0a", 45);
        check.due("b alone goes", book.release(0), 1);
        check.due("leaves", Check.sizes(book), 35);
        drop(check, book, 0, 7);
        TermBook refused = Books.letters(9);
        check.due("drop of none", refused.drop(9), TermBook.BAD);
        check.due("leaves", Check.sizes(refused), 45);
    }

    private static void costs(Check check, TermBook book, int i, int shared, int cost) {
        check.due("SHARED of leaf " + i, book.leaf(i, 1), shared);
        check.due("COST of leaf " + i, book.leaf(i, 2), cost);
    }

    private static void sharedOfKinds(Check check) {
        TermBook book = new TermBook();
        Books.come(book, "1abc");
        costs(check, book, 0, 3, 3);
        Books.come(book, "1abd");
        costs(check, book, 0, 2, 4);
        Books.come(book, "2abd");
        costs(check, book, 0, 0, 9);
        book.drop(1);
        costs(check, book, 0, 0, 6);
        book.drop(0);
        costs(check, book, 0, 3, 3);
        Books.come(book, "0abd");
        costs(check, book, 0, 0, 6);
        check.due("all leaves' COST", book.count(6), 6);
        TermBook parted = new TermBook();
        for (int i = 0; i < 9; i++) {
            Books.come(parted, (i < 4 ? "0" : "3") + "same" + (char) ('a' + i));
        }
        costs(check, parted, 0, 4, 8);
        costs(check, parted, 1, 4, 9);
        check.due("all leaves' COST", parted.count(6), 17);
    }

    private static void sharedOfBytes(Check check) {
        String text = "abcdefghijklmnop";
        for (int same = 0; same <= 15; same++) {
            TermBook book = new TermBook();
            Books.come(book, "2" + text);
            costs(check, book, 0, 16, 16);
            Books.come(book, "2" + text.substring(0, same) + "~");
            costs(check, book, 0, same, same + (16 - same) + 1);
            if (same > 0) {
                Books.come(book, "2" + text.substring(0, same));
                costs(check, book, 0, same, same + (16 - same) + 1);
            }
            check.due("all leaves' COST", book.count(6), 17);
        }
        TermBook greatest = new TermBook();
        for (int i = 0; i < 8; i++) {
            Books.come(greatest, "0" + (char) ('a' + i) + "~~~~~~~~~~~~~~~");
        }
        costs(check, greatest, 0, 0, 128);
        check.due("all leaves' COST", greatest.count(6), 128);
    }

    private static void leavesThatThereAre(Check check) {
        int[] terms = {0, 1, 8, 9, 13, 100};
        int[] leaves = {0, 1, 1, 2, 3, 24};
        for (int k = 0; k < terms.length; k++) {
            TermBook book = Books.many(terms[k]);
            check.due("leaves of " + terms[k], book.count(1), leaves[k]);
            int[] asked = {LEAST, -2, -1, 0, leaves[k] - 1, leaves[k], leaves[k] + 1, 99, 100, GREATEST};
            for (int i : asked) {
                boolean there = i >= 0 && i < leaves[k];
                check.due("leaf(" + i + ", 3) of " + terms[k], book.leaf(i, 3), there ? 4 * i : TermBook.BAD);
                check.due("leaf(" + i + ", 0) of " + terms[k] + " is there", book.leaf(i, 0) > 0 ? 1 : 0, there ? 1 : 0);
            }
        }
    }

    private static void whats(Check check) {
        int[] asked = {LEAST, LEAST + 1, -2, -1, 0, 1, 2, 3, 4, 5, GREATEST};
        int bad = TermBook.BAD;
        int[] due = {bad, bad, bad, bad, 2, 3, 5, 1, bad, bad, bad};
        TermBook book = new TermBook();
        Books.come(book, "0abcd");
        Books.come(book, "0abc!");
        for (int i = 0; i < asked.length; i++) {
            check.due("leaf(0, " + asked[i] + ")", book.leaf(0, asked[i]), due[i]);
            check.due("leaf(1, " + asked[i] + ")", book.leaf(1, asked[i]), bad);
            check.due("leaf(-1, " + asked[i] + ")", book.leaf(-1, asked[i]), bad);
            check.due("leaf(least, " + asked[i] + ")", book.leaf(LEAST, asked[i]), bad);
            check.due("leaf(greatest, " + asked[i] + ")", book.leaf(GREATEST, asked[i]), bad);
        }
    }

    private static void counts(Check check) {
        int[] asked = {LEAST, LEAST + 1, -2, -1, 0, 1, 2, 3, 4, 5, 6, 7, 8, GREATEST};
        int bad = TermBook.BAD;
        int[] ofNew = {bad, bad, bad, bad, 0, 0, 0, 0, 0, 0, 0, bad, bad, bad};
        int[] ofSmall = {bad, bad, bad, bad, 10, 2, 3, 2, 1, 2, 28 + 8, bad, bad, bad};
        int[] ofFull = {bad, bad, bad, bad, 100, 24, 6, 6, 1, 16, costOfFull(), bad, bad, bad};
        TermBook made = Books.empty();
        TermBook small = Books.small();
        TermBook full = Books.full();
        for (int i = 0; i < asked.length; i++) {
            check.due("new: count(" + asked[i] + ")", made.count(asked[i]), ofNew[i]);
            check.due("small: count(" + asked[i] + ")", small.count(asked[i]), ofSmall[i]);
            check.due("full: count(" + asked[i] + ")", full.count(asked[i]), ofFull[i]);
        }
    }

    /** Of the terms' names, in leaves of 4 and a last one of 8. */
    private static int costOfFull() {
        int cost = 0;
        for (int i = 0; i < 24; i++) {
            int end = i == 23 ? 100 : 4 * i + 4;
            String common = Books.manyName(4 * i);
            for (int number = 4 * i; number < end; number++) {
                while (!Books.manyName(number).startsWith(common)) {
                    common = common.substring(0, common.length() - 1);
                }
            }
            // the first of a name is its kind
            int shared = Math.max(common.length() - 1, 0);
            cost += shared + (end - 4 * i) * (2 - shared);
        }
        return cost;
    }
}
