/** Each sentence of the document that names a boundary case, in a test of its own. */
public final class BoundaryTest {
    public static void main(String[] args) {
        NewObjectBoundaries.test();
        StickBoundaries.test();
        MixBoundaries.test();
        ServoBoundaries.test();
        FrameBoundaries.test();
        ForecastBoundaries.test();
        TextBoundaries.test();
        UndoBoundaries.test();
        Boundary.allIsQuoted();
        Checks.finish("BoundaryTest");
    }
}
