/** Each sentence of the document's terms and promises, at its bounds, beyond them, and refused. */
public final class BoundsTest {
    public static void main(String[] args) {
        Sentences s = new Sentences();
        new TermsBounds(s).all();
        new TermsWaysBounds(s).all();
        new TapeBounds(s).all();
        new TollBounds(s).all();
        new PlaceBounds(s).all();
        new NightBounds(s).all();
        new BandBounds(s).all();
        new DrawBounds(s).all();
        new SlotBounds(s).all();
        s.close();
    }
}
