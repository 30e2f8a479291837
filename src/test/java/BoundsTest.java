/** Each sentence of the document that names a boundary case has tests of its own; each says which one it tests. */
public final class BoundsTest {
    private BoundsTest() {
    }

    public static void main(String[] args) {
        DescriptionBounds.check();
        TicksBounds.check();
        NumbersBounds.check();
        ActionsBounds.check();
        ForesightBounds.check();
        UndoBounds.check();
        Bounds.ALL.allIsSaid();
        Bounds.ALL.end("BoundsTest");
    }
}
