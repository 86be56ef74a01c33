import java.io.IOException;

/** Every sentence of the document that names a boundary case, each with a test of its own. */
public final class BoundaryTest {
    private BoundaryTest() {
    }

    public static void main(String[] args) throws IOException {
        Sentences.begin();
        NetworkBoundaries.run();
        MeasurementBoundaries.run();
        EquationBoundaries.run();
        EstimateBoundaries.run();
        ErrorBoundaries.run();
        Sentences.end();
    }
}
