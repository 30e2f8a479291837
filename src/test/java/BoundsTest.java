/** Each sentence of the document has tests of its own, on both sides of each boundary; they say which one they test. */
public final class BoundsTest {
    private BoundsTest() {
    }

    public static void main(String[] args) {
        PlainTerms.check();
        PlainPromises.check();
        DescriptionBounds.check();
        TicksBounds.check();
        NumbersBounds.check();
        ActionsBounds.check();
        ForesightBounds.check();
        UndoBounds.check();
        Bounds.ALL.allIsSaid();
        Bounds.ALL.end("BoundsTest");
    }
}
