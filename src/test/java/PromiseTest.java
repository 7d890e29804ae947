/** Each promise of the document by its number. */
public final class PromiseTest {
    private PromiseTest() {
    }

    public static void main(String[] args) {
        Check.finish("PromiseTest");
    }
}
