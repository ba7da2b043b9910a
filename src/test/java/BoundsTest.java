/** Every sentence of ../shared/DOC.md by a test that quotes it, the bounds that it names first of all. */
public final class BoundsTest {
  public static void main(String[] args) {
    BoundsOfYears.look();
    BoundsOfTexts.look();
    BoundsOfSums.look();
    BoundsOfStrokes.look();
    BoundsOfForgers.look();
    BoundsOfWitness.look();
    BoundsOfImage.look();
    BoundsOfCalls.look();
    Sentences.close();
    Due.close("BoundsTest");
  }
}
