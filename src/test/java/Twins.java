/**
 * Two books made alike, one of which is asked for what it must refuse, or for what it only reads. Behind
 * that both must answer alike whatever they are asked. A book is asked no more than 512 times in all.
 */
final class Twins {
    /** Where a book has no more terms than this, all can be read of it within its calls. */
    private static final int FEW = 12;

    private Twins() {
    }

    interface Call {
        int on(TermBook book);
    }

    /** A refused call that changes nothing. */
    static void refused(Check check, String name, Books.Making making, Call call, int want) {
        TermBook asked = making.book();
        check.due(name, call.on(asked), want);
        alike(check, name, asked, making.book());
    }

    /** A refused call that empties the tape and changes nothing else. */
    static void refusedAndCleared(Check check, String name, Books.Making making, Call call, int want) {
        TermBook asked = making.book();
        check.due(name, call.on(asked), want);
        TermBook other = making.book();
        other.clear();
        alike(check, name, asked, other);
    }

    /** A call that only reads: two books made alike answer it alike, and nothing has changed behind it. */
    static void read(Check check, String name, Books.Making making, Call call) {
        refused(check, name, making, call, call.on(making.book()));
    }

    private static void alike(Check check, String name, TermBook got, TermBook want) {
        String then = "after " + name + ": ";
        counts(check, then, got, want);
        int terms = want.count(0);
        order(check, then, got, want, terms);
        tape(check, then, got, want);
        if (terms <= FEW) {
            details(check, then, got, want);
        }
        goOn(check, then, got, want);
    }

    private static void counts(Check check, String then, TermBook got, TermBook want) {
        for (int what = 0; what <= 6; what++) {
            check.due(then + "count(" + what + ")", got.count(what), want.count(what));
        }
    }

    private static void order(Check check, String then, TermBook got, TermBook want, int terms) {
        for (int i = 0; i < terms; i++) {
            check.due(then + "at(" + i + ")", got.at(i), want.at(i));
            check.due(then + "uses of " + i, got.term(i, 1), want.term(i, 1));
        }
        for (int i = 0; i < terms / 4; i++) {
            check.due(then + "leaf(" + i + ", 0)", got.leaf(i, 0), want.leaf(i, 0));
        }
        for (int version = 0; version <= 6; version++) {
            check.due(then + "had(" + version + ", -1)", got.had(version, -1), want.had(version, -1));
        }
    }

    private static void tape(Check check, String then, TermBook got, TermBook want) {
        for (int kind = 0; kind <= 3; kind++) {
            check.due(then + "find(" + kind + ")", got.find(kind), want.find(kind));
            check.due(then + "begins(" + kind + ")", got.begins(kind), want.begins(kind));
            check.due(then + "from(" + kind + ")", got.from(kind), want.from(kind));
        }
    }

    private static void details(Check check, String then, TermBook got, TermBook want) {
        for (int number = 0; number <= 10; number++) {
            for (int what = 0; what <= 6; what += 2) {
                check.due(then + "term(" + number + ", " + what + ")", got.term(number, what), want.term(number, what));
            }
            for (int version = 0; version <= 3; version++) {
                check.due(then + "had(" + version + ", " + number + ")", got.had(version, number), want.had(version, number));
            }
        }
        for (int i = 0; i <= 2; i++) {
            for (int what = 0; what <= 3; what++) {
                check.due(then + "leaf(" + i + ", " + what + ")", got.leaf(i, what), want.leaf(i, what));
            }
        }
    }

    private static void goOn(Check check, String then, TermBook got, TermBook want) {
        int number = want.add(1);
        check.due(then + "add(1)", got.add(1), number);
        for (int what = 2; what <= 19; what++) {
            check.due(then + "its " + what, got.term(number, what), want.term(number, what));
        }
        for (int version = 0; version <= 6; version++) {
            check.due(then + "release(" + version + ")", got.release(version), want.release(version));
        }
        check.due(then + "version()", got.version(), want.version());
        check.due(then + "its terms", got.had(want.count(2) - 1, -1), want.had(want.count(2) - 1, -1));
        counts(check, then + "going on, ", got, want);
    }
}
