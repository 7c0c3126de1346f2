/**
 * A book of terms: each has a number for as long as it is used or a kept version has it.
 * The terms lie sorted in leaves that part and join.
 */
public final class TermBook {
    public static final int BAD = -1;
    public static final int NO = -2;
    public static final int FULL = -3;

    private static final int KINDS = 4;
    private static final int NUMBERS = 100;
    private static final int MOST_KEPT = 6;
    private static final int MOST_TYPED = 8;
    private static final int LEAST_BYTE = 33;
    private static final int GREATEST_BYTE = 126;

    /** No number, place, leaf or slot: all of these begin with 0. */
    private static final int NONE = -1;

    private final Text tape;
    private final Term[] terms;
    private final Leaves leaves;
    /** A slot for each version that can be kept: that version, or NONE. */
    private final int[] kept;
    private int ended;

    public TermBook() {
        tape = new Text();
        terms = new Term[NUMBERS];
        for (int number = 0; number < terms.length; number++) {
            terms[number] = new Term();
        }
        leaves = new Leaves();
        kept = new int[MOST_KEPT];
        for (int slot = 0; slot < kept.length; slot++) {
            kept[slot] = NONE;
        }
        ended = 0;
    }

    public int type(long bytes, int n) {
        if (n < 1 || n > MOST_TYPED || !allFit(bytes, n)) {
            return BAD;
        }
        if (tape.length + n > Text.MOST) {
            return FULL;
        }
        for (int i = n - 1; i >= 0; i--) {
            tape.append(byteOf(bytes, i));
        }
        return tape.length;
    }

    public int clear() {
        int length = tape.length;
        tape.empty();
        return length;
    }

    public int add(int kind) {
        int answer = isKind(kind) && tape.length > 0 ? useTape(kind) : BAD;
        tape.empty();
        return answer;
    }

    public int drop(int number) {
        Term dropped = inBook(number);
        if (dropped == null || dropped.uses == 0) {
            return BAD;
        }
        dropped.uses--;
        if (!dropped.isNeeded()) {
            takeOut(dropped, leaves.placeOf(number));
        }
        return dropped.uses;
    }

    public int find(int kind) {
        if (!isKind(kind)) {
            return BAD;
        }
        int number = leaves.numberAt(placeOfTape(kind));
        return isTape(number, kind) ? number : NO;
    }

    public int term(int number, int what) {
        Term told = inBook(number);
        if (told == null || what < 0) {
            return BAD;
        }
        switch (what) {
            case 0:
                return told.kind;
            case 1:
                return told.uses;
            case 2:
                return told.text.length;
            default:
                return what - 3 < told.text.length ? told.text.byteAt(what - 3) : BAD;
        }
    }

    public int at(int i) {
        int number = leaves.numberAt(i);
        return number == NONE ? NO : number;
    }

    public int place(int number) {
        return inBook(number) == null ? BAD : leaves.placeOf(number);
    }

    public int begins(int kind) {
        if (!isKind(kind)) {
            return BAD;
        }
        int found = 0;
        for (int number = 0; number < NUMBERS; number++) {
            Term looked = inBook(number);
            if (looked != null && looked.kind == kind && looked.text.startsWith(tape)) {
                found++;
            }
        }
        return found;
    }

    public int from(int kind) {
        return isKind(kind) ? placeOfTape(kind) : BAD;
    }

    public int version() {
        int slot = slotOf(NONE);
        if (slot == NONE) {
            return FULL;
        }
        for (int number = 0; number < NUMBERS; number++) {
            Term looked = inBook(number);
            if (looked != null && looked.uses > 0) {
                looked.keepFor(slot);
            }
        }
        kept[slot] = ended;
        ended++;
        return kept[slot];
    }

    public int release(int version) {
        int slot = keptSlot(version);
        if (slot == NONE) {
            return BAD;
        }
        kept[slot] = NONE;
        for (int number = 0; number < NUMBERS; number++) {
            Term looked = inBook(number);
            if (looked != null) {
                looked.giveUpFor(slot);
            }
        }
        return takeOutUnneeded();
    }

    public int had(int version, int number) {
        int slot = keptSlot(version);
        if (slot == NONE || number < -1 || number >= NUMBERS) {
            return BAD;
        }
        if (number == -1) {
            return countKeptFor(slot);
        }
        Term asked = inBook(number);
        return asked != null && asked.isKeptFor(slot) ? 1 : 0;
    }

    public int leaf(int i, int what) {
        if (i < 0 || i >= leaves.parts) {
            return BAD;
        }
        switch (what) {
            case 0:
                return leaves.sizeOf(i);
            case 1:
                return sharedIn(i);
            case 2:
                return costOf(i);
            case 3:
                return leaves.numberAt(leaves.startOf(i));
            default:
                return BAD;
        }
    }

    public int count(int what) {
        switch (what) {
            case 0:
                return leaves.filled;
            case 1:
                return leaves.parts;
            case 2:
                return ended;
            case 3:
                return countKeptVersions();
            case 4:
                return countUnused();
            case 5:
                return tape.length;
            case 6:
                return costOfAll();
            default:
                return BAD;
        }
    }

    private static boolean isKind(int kind) {
        return kind >= 0 && kind < KINDS;
    }

    private static int byteOf(long bytes, int i) {
        return (int) ((bytes >>> (8 * i)) & 255L);
    }

    private static boolean allFit(long bytes, int n) {
        for (int i = 0; i < n; i++) {
            int b = byteOf(bytes, i);
            if (b < LEAST_BYTE || b > GREATEST_BYTE) {
                return false;
            }
        }
        return true;
    }

    /** The term with this number, or null if there is none in the book. */
    private Term inBook(int number) {
        if (number < 0 || number >= terms.length) {
            return null;
        }
        Term found = terms[number];
        return found != null && found.present ? found : null;
    }

    /** Where the term of a kind with the tape as its text stands, or would. */
    private int placeOfTape(int kind) {
        int place = 0;
        while (place < leaves.filled && isBeforeTape(leaves.numberAt(place), kind)) {
            place++;
        }
        return place;
    }

    private boolean isBeforeTape(int number, int kind) {
        Term looked = inBook(number);
        return looked != null && looked.compareWith(kind, tape) < 0;
    }

    private boolean isTape(int number, int kind) {
        Term looked = inBook(number);
        return looked != null && looked.compareWith(kind, tape) == 0;
    }

    private int useTape(int kind) {
        int place = placeOfTape(kind);
        int number = leaves.numberAt(place);
        if (!isTape(number, kind)) {
            number = bringTape(kind, place);
        }
        Term used = inBook(number);
        if (used == null) {
            return FULL;
        }
        used.uses++;
        return number;
    }

    /** The number that the tape's new term has, or NONE if all are taken. */
    private int bringTape(int kind, int place) {
        int number = leastFree();
        if (number == NONE || terms[number] == null) {
            return NONE;
        }
        terms[number].comeAs(kind, tape);
        leaves.insert(place, number);
        return number;
    }

    private int leastFree() {
        for (int number = 0; number < NUMBERS; number++) {
            if (inBook(number) == null) {
                return number;
            }
        }
        return NONE;
    }

    private void takeOut(Term going, int place) {
        going.present = false;
        leaves.remove(place);
    }

    /** In their order, for which leaves are joined depends on who goes first. */
    private int takeOutUnneeded() {
        int before = leaves.filled;
        int place = 0;
        for (int i = 0; i < before; i++) {
            Term looked = inBook(leaves.numberAt(place));
            if (looked != null && !looked.isNeeded()) {
                takeOut(looked, place);
            } else {
                place++;
            }
        }
        return before - leaves.filled;
    }

    /** A version's slot; with NONE as the version, a slot that is free. */
    private int slotOf(int version) {
        for (int slot = 0; slot < kept.length; slot++) {
            if (kept[slot] == version) {
                return slot;
            }
        }
        return NONE;
    }

    private int keptSlot(int version) {
        return version < 0 ? NONE : slotOf(version);
    }

    private int countKeptFor(int slot) {
        int found = 0;
        for (int number = 0; number < NUMBERS; number++) {
            Term looked = inBook(number);
            if (looked != null && looked.isKeptFor(slot)) {
                found++;
            }
        }
        return found;
    }

    private int countKeptVersions() {
        int found = 0;
        for (int slot = 0; slot < kept.length; slot++) {
            if (kept[slot] != NONE) {
                found++;
            }
        }
        return found;
    }

    private int countUnused() {
        int found = 0;
        for (int number = 0; number < NUMBERS; number++) {
            Term looked = inBook(number);
            if (looked != null && looked.uses == 0) {
                found++;
            }
        }
        return found;
    }

    /** The first and the last term tell it: what they share, all between them in the order share. */
    private int sharedIn(int leaf) {
        int start = leaves.startOf(leaf);
        Term first = inBook(leaves.numberAt(start));
        Term last = inBook(leaves.numberAt(start + leaves.sizeOf(leaf) - 1));
        if (first == null || last == null || first.kind != last.kind) {
            return 0;
        }
        return first.text.sharedWith(last.text);
    }

    private int costOf(int leaf) {
        int shared = sharedIn(leaf);
        int start = leaves.startOf(leaf);
        int end = start + leaves.sizeOf(leaf);
        int cost = shared;
        for (int place = start; place < end; place++) {
            Term told = inBook(leaves.numberAt(place));
            if (told != null) {
                cost += told.text.length - shared;
            }
        }
        return cost;
    }

    private int costOfAll() {
        int cost = 0;
        for (int leaf = 0; leaf < leaves.parts; leaf++) {
            cost += costOf(leaf);
        }
        return cost;
    }

    /**
     * Up to 16 bytes in two longs, the first byte highest, zero behind the last one. Bytes are
     * 33 .. 126, so that comparing the longs compares the texts, a beginning before what is longer.
     */
    private static final class Text {
        private static final int MOST = 16;
        private static final int HALF = 8;

        private long head;
        private long tail;
        private int length;

        void append(int b) {
            if (length < HALF) {
                head |= (long) b << (8 * (HALF - 1 - length));
                length++;
            } else if (length < MOST) {
                tail |= (long) b << (8 * (MOST - 1 - length));
                length++;
            }
        }

        void empty() {
            head = 0L;
            tail = 0L;
            length = 0;
        }

        void copyOf(Text other) {
            head = other.head;
            tail = other.tail;
            length = other.length;
        }

        int byteAt(int i) {
            return i < HALF ? byteOf(head, HALF - 1 - i) : byteOf(tail, MOST - 1 - i);
        }

        int compareWith(Text other) {
            return head != other.head ? Long.compare(head, other.head) : Long.compare(tail, other.tail);
        }

        int sharedWith(Text other) {
            int equal = head != other.head
                    ? Long.numberOfLeadingZeros(head ^ other.head) / 8
                    : HALF + Long.numberOfLeadingZeros(tail ^ other.tail) / 8;
            // the zeros behind two texts' ends are equal too, but no bytes of theirs
            return Math.min(equal, Math.min(length, other.length));
        }

        boolean startsWith(Text beginning) {
            return sharedWith(beginning) == beginning.length;
        }
    }

    /** What one number stands for; made once and used again by the next term with that number. */
    private static final class Term {
        private final Text text;
        private boolean present;
        private int kind;
        private int uses;
        /** A bit for each slot whose version has this term. */
        private int keepers;

        Term() {
            text = new Text();
        }

        void comeAs(int itsKind, Text itsText) {
            text.copyOf(itsText);
            kind = itsKind;
            uses = 0;
            keepers = 0;
            present = true;
        }

        int compareWith(int otherKind, Text otherText) {
            return kind != otherKind ? Integer.compare(kind, otherKind) : text.compareWith(otherText);
        }

        void keepFor(int slot) {
            keepers |= 1 << slot;
        }

        void giveUpFor(int slot) {
            keepers &= ~(1 << slot);
        }

        boolean isKeptFor(int slot) {
            return (keepers & (1 << slot)) != 0;
        }

        boolean isNeeded() {
            return uses > 0 || keepers != 0;
        }
    }

    /**
     * The numbers in their terms' order, in one row. As the leaves lie behind one another in it,
     * their sizes alone tell them apart, and to part, to join and to hand over a term is to change sizes.
     */
    private static final class Leaves {
        private static final int MOST = 8;
        private static final int LEAST = 3;
        private static final int STAY = 4;

        private final int[] numbers;
        private int filled;
        private final int[] sizes;
        private int parts;

        Leaves() {
            numbers = new int[NUMBERS];
            // each leaf has a term, so there are never more leaves than numbers
            sizes = new int[NUMBERS];
        }

        int numberAt(int place) {
            return place >= 0 && place < filled && place < numbers.length ? numbers[place] : NONE;
        }

        int placeOf(int number) {
            for (int place = 0; place < filled; place++) {
                if (numberAt(place) == number) {
                    return place;
                }
            }
            return NONE;
        }

        int sizeOf(int leaf) {
            return leaf >= 0 && leaf < parts && leaf < sizes.length ? sizes[leaf] : 0;
        }

        int startOf(int leaf) {
            int start = 0;
            for (int before = 0; before < leaf && before < parts; before++) {
                start += sizeOf(before);
            }
            return start;
        }

        void insert(int place, int number) {
            if (place < 0 || place > filled || filled >= numbers.length) {
                return;
            }
            int leaf = leafOf(place);
            for (int i = filled; i > place; i--) {
                numbers[i] = numbers[i - 1];
            }
            numbers[place] = number;
            filled++;
            if (parts == 0) {
                parts = 1;
            }
            resize(leaf, 1);
            if (sizeOf(leaf) > MOST) {
                part(leaf);
            }
        }

        void remove(int place) {
            if (place < 0 || place >= filled || filled > numbers.length) {
                return;
            }
            int leaf = leafOf(place);
            filled--;
            for (int i = place; i < filled; i++) {
                numbers[i] = numbers[i + 1];
            }
            resize(leaf, -1);
            if (sizeOf(leaf) < LEAST) {
                mend(leaf);
            }
        }

        /** The first leaf that reaches beyond a place, else the last one; 0 if there is none. */
        private int leafOf(int place) {
            int end = 0;
            for (int leaf = 0; leaf < parts; leaf++) {
                end += sizeOf(leaf);
                if (end > place) {
                    return leaf;
                }
            }
            return Math.max(parts - 1, 0);
        }

        private void resize(int leaf, int by) {
            if (leaf >= 0 && leaf < parts && leaf < sizes.length) {
                sizes[leaf] += by;
            }
        }

        private void part(int leaf) {
            if (leaf < 0 || leaf >= parts || parts >= sizes.length) {
                return;
            }
            for (int i = parts; i > leaf + 1; i--) {
                sizes[i] = sizes[i - 1];
            }
            parts++;
            sizes[leaf + 1] = sizes[leaf] - STAY;
            sizes[leaf] = STAY;
        }

        private void mend(int leaf) {
            if (parts < 2) {
                dropEmpty();
                return;
            }
            int other = leaf + 1 < parts ? leaf + 1 : leaf - 1;
            if (sizeOf(leaf) + sizeOf(other) <= MOST) {
                joinNext(Math.min(leaf, other));
            } else {
                resize(leaf, 1);
                resize(other, -1);
            }
        }

        /** A leaf alone has nobody to join, and without terms it is none. */
        private void dropEmpty() {
            if (filled == 0) {
                parts = 0;
            }
        }

        private void joinNext(int leaf) {
            if (leaf < 0 || leaf + 1 >= parts || parts > sizes.length) {
                return;
            }
            resize(leaf, sizeOf(leaf + 1));
            parts--;
            for (int i = leaf + 1; i < parts; i++) {
                sizes[i] = sizes[i + 1];
            }
        }
    }
}
