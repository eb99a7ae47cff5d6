import java.util.List;

/**
 * The edges of the document, sentence by sentence, under src/test/edges: each has a test of its own, and no sentence that
 * names an edge is without one.
 */
public final class EdgesTest {
  public static void main(String[] args) {
    Cases.run(EdgesTerms.class);
    Cases.run(EdgesDoing.class);
    Cases.run(EdgesSeen.class);
    Cases.run(EdgesAsked.class);
    Cases.run(EdgesGoneOver.class);
    Cases.run(EdgesTowers.class);
    List<String> untested = Sentences.untested();
    for (String sentence : untested) System.out.println(sentence);
    if (!untested.isEmpty()) System.exit(1);
    Script.end("EdgesTest");
  }
}
