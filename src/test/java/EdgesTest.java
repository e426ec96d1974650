import java.io.IOException;

/**
 * A test for each sentence of ../shared/DOC.md that names a boundary case. A sentence that has none,
 * and is not told below, fails this test too.
 */
public final class EdgesTest {
  /** Headings and sentences that ask nothing of a call, or tell what the next ones tell more of. */
  private static final String[][] WITHOUT_EDGE = {
    {"What it is", "A simulator of a bank of relays"},
    {"What it is", "what later calls answer is free."},
    {"Errors", "The constants:"},
    {"Errors", "The constructor and the methods follow, a promise each"},
    {"Not promised", "How the state is held inside the object is free"},
    {"Not promised", "Use of one object from several threads at once"},
    {"Not promised", "Nothing is promised beyond the answers and state changes"},
  };

  public static void main(String[] args) throws IOException {
    Edges edges = new Edges();
    new BankEdges(edges).all();
    new TimeEdges(edges).all();
    new TextEdges(edges).all();
    new UndoEdges(edges).all();
    new RelayEdges(edges).all();
    new HappeningEdges(edges).all();
    new LookingEdges(edges).all();
    new QuestionEdges(edges).all();
    edges.end(WITHOUT_EDGE);
  }
}
