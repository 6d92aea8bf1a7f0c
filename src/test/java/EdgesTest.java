/** Each sentence of the document: what is still allowed, and what is not. */
public final class EdgesTest {
  public static void main(String[] args) {
    EdgesOfTypes.all();
    EdgesOfTerms.all();
    EdgesOfMatching.all();
    EdgesOfChapter.all();
    EdgesOfRefusals.all();
    Document.checkAllQuoted();
    Checks.end("EdgesTest");
  }
}
