/**
 * Each sentence of the document that names a boundary case: too small, too large, empty, full, going round, refused.
 * The argument is DOC.md: the words that a test names must stand in it, and no boundary case may be left without a test.
 */
public final class BoundsTest extends Bounds {
    public static void main(String[] args) throws Exception {
        Document document = new Document(args[0]);
        read(document);
        TapeBounds.all();
        GroundBounds.all();
        LawBounds.all();
        LookBounds.all();
        ActBounds.all();
        WeekBounds.all();
        ListBounds.all();
        PairBounds.all();
        GateBounds.all();
        OddsBounds.all();
        RefusedBounds.all();
        T.about("the document");
        T.due("promises", document.promises(), Document.PROMISES);
        for (int i = 1; i <= Document.PROMISES; i++) T.due("a test of promise " + i, NAMED.contains(i), true);
        for (String left : document.unnamed()) T.due(left, "no test", "a test");
        T.end();
    }
}
