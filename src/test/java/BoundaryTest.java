/** Each sentence of the document that names a boundary case: calls just to it, calls just past it. */
public final class BoundaryTest {
    private BoundaryTest() {
    }

    public static void main(String[] args) {
        BoundaryOfTelling.all();
        BoundaryOfParts.all();
        BoundaryOfWorks.all();
        BoundaryOfPlans.all();
        BoundaryOfChances.all();
        Boundary.end();
        Kit.end("BoundaryTest");
    }
}
