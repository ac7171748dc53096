/** All promises: every sentence of the document that names a boundary, on both sides of it. */
public final class EdgesTest {
    private static final String KINDS = "msgcp";

    public static void main(String[] args) {
        HillEdges.all();
        PeopleEdges.all();
        TunnelEdges.all();
        AskEdges.all();
        ImageEdges.all();
        Doc.allEdgesWereQuoted();
        everyHillOfTwo();
        Check.end();
    }

    /** The smallest hills, all of them, against the Model. */
    private static void everyHillOfTwo() {
        for (int at = 0; at < 5 * 10 * 5 * 10 * 9; at++) {
            String hill = "" + KINDS.charAt(at % 5) + at / 5 % 10 + "," + KINDS.charAt(at / 50 % 5) + at / 250 % 10
                    + ";" + (1 + at / 2500);
            DugBySaid x = Check.hilled(hill);
            Model model = new Model();
            for (int place = 0; place < hill.length(); place++) {
                model.letter(hill.charAt(place));
            }
            model.hill();
            Check.due("tell(0, 0) of " + hill, x.tell(0, 0), model.tell(0, 0));
            Check.due("day() of " + hill, x.day(), model.day());
            Check.due("digest() of " + hill, x.digest(), model.digest());
        }
    }
}
