/** Promises 6 to 11 and 14 to 16: what only reads changes nothing, whatever it answers. */
public final class ReadingTest {
    private final Check check;
    private final String name;
    private final Books.Making making;

    private ReadingTest(Check check, String name, Books.Making making) {
        this.check = check;
        this.name = name;
        this.making = making;
    }

    public static void main(String[] args) {
        Check check = new Check("ReadingTest");
        new ReadingTest(check, "empty book", Books::empty).readAll();
        new ReadingTest(check, "small book", Books::small).readAll();
        new ReadingTest(check, "full book", Books::full).readAll();
        check.end();
    }

    private void read(String call, Twins.Call asked) {
        Twins.read(check, name + ", " + call, making, asked);
    }

    private void readAll() {
        for (int kind = 0; kind <= 3; kind++) {
            int asked = kind;
            read("find(" + kind + ")", book -> book.find(asked));
            read("begins(" + kind + ")", book -> book.begins(asked));
            read("from(" + kind + ")", book -> book.from(asked));
        }
        for (int number : new int[] {0, 1, 2, 9, 50, 99}) {
            read("place(" + number + ")", book -> book.place(number));
            read("at(" + number + ")", book -> book.at(number));
            for (int what = 0; what <= 4; what++) {
                int asked = what;
                read("term(" + number + ", " + what + ")", book -> book.term(number, asked));
            }
        }
        for (int version = 0; version <= 5; version++) {
            int asked = version;
            read("had(" + version + ", -1)", book -> book.had(asked, -1));
            read("had(" + version + ", 2)", book -> book.had(asked, 2));
        }
        for (int what = 0; what <= 6; what++) {
            int asked = what;
            read("count(" + what + ")", book -> book.count(asked));
            read("leaf(0, " + what + ")", book -> book.leaf(0, asked));
            read("leaf(1, " + what + ")", book -> book.leaf(1, asked));
        }
    }
}
