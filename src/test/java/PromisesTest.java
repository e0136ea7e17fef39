/** Each promise of the document by hand: ordinary inputs, the edges it names, wrong inputs. */
public final class PromisesTest {
    public static void main(String[] args) {
        Check check = new Check();
        check.due("count(0) of a new one", new BandstandLawn().count(0), 4);
        check.end("PromisesTest");
    }
}
