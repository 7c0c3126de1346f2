/** The example of README.md, call by call. */
public final class ExampleTest {
    public static void main(String[] args) {
        Check check = new Check("ExampleTest");
        TermBook book = new TermBook();
        check.due("type", book.type(0x6162L, 2), 2);
        int number = book.add(1);
        check.due("add", number, 0);
        check.due("the tape is empty then", book.count(5), 0);
        check.due("its first byte", book.term(number, 3), 'a');
        check.due("its uses", book.term(number, 1), 1);
        int kept = book.version();
        check.due("version", kept, 0);
        check.due("drop", book.drop(number), 0);
        check.due("it stays", book.count(0), 1);
        check.due("had", book.had(kept, number), 1);
        check.due("release", book.release(kept), 1);
        check.due("it is gone", book.count(0), 0);
        check.end();
    }
}
