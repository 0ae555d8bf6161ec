import java.io.IOException;

/**
 * Every sentence of the document that names an edge, tried by itself: too small, too large, empty, full, a wrap-around,
 * a refused call. What is due was worked out by hand. At the end it is looked whether any words were left out.
 */
public final class EdgesTest {
    public static void main(String[] args) throws IOException {
        EdgesOfWearers.run();
        EdgesOfQuestions.run();
        EdgesOfTapes.run();
        EdgesOfCalls.run();
        EdgesOfState.run();
        Edge.end();
    }
}
