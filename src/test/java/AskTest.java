/** Promises 14 to 17: heard, forget, began, ask. */
public final class AskTest {
    private static final int NONE = -1, UNKNOWN = -101, OUTSIDE = -102, FULL = -104;

    public static void main(String[] args) {
        heardIsCounted();
        heardRefusals();
        beganByChain();
        beganByNever();
        beganGoesByNext();
        asksTheBest();
        asksTheLeast();
        asksNobody();
        Check.end();
    }

    private static void heardIsCounted() {
        DugBySaid x = Check.hilled("m1,m0;9");
        for (int much = 1; much <= 8; much++) {
            Check.due("heard " + much, x.heard(much % 2, much - 2 < 0 ? NONE : much), much);
        }
        Check.due("a ninth", x.heard(0, 0), FULL);
        Check.due("asked", x.count(6), 8);
        Check.due("forget()", x.forget(), 8);
        Check.due("forget() again", x.forget(), 0);
        Check.due("nothing asked", x.count(6), 0);
        Check.due("heard again", x.heard(0, 9), 1);
        Check.due("nobody has heard of a tunnel by it", x.count(4), 0);
    }

    private static void heardRefusals() {
        DugBySaid x = Check.hilled("m1,m0;9");
        int[] edges = {-2, -101, 10, 32, Integer.MIN_VALUE, Integer.MAX_VALUE};
        for (int edge : edges) {
            Check.due("heard(" + edge + ", 0)", x.heard(edge, 0), UNKNOWN);
            Check.due("heard(2, " + edge + ")", x.heard(2, edge), UNKNOWN);
            Check.due("heard(1, " + edge + ")", x.heard(1, edge), OUTSIDE);
        }
        Check.due("heard(-1, 0)", x.heard(-1, 0), UNKNOWN);
        Check.due("refusals change nothing", x.count(6), 0);
        for (int much = 0; much < 8; much++) {
            x.heard(0, 0);
        }
        Check.due("unknown ahead of full", x.heard(2, 0), UNKNOWN);
        Check.due("outside ahead of full", x.heard(0, 10), OUTSIDE);
    }

    private static void beganByChain() {
        DugBySaid x = Check.hilled("m1,m2,m3,m4,m5,m9;9");
        Check.due("all can have begun", x.began(), 63);
        x.heard(5, 3);
        Check.due("three steps ahead of 5", x.began(), 4);
        x.heard(3, 1);
        Check.due("that agrees", x.began(), 4);
        x.heard(2, 1);
        Check.due("that does not", x.began(), 0);
        x.forget();
        x.heard(4, 0);
        Check.due("on day 0 he began it", x.began(), 16);
        x.forget();
        x.heard(0, 9);
        Check.due("nobody hears on day 9", x.began(), 0);
        x.forget();
        Check.due("all again", x.began(), 63);
    }

    private static void beganByNever() {
        DugBySaid x = Check.hilled("m1,m9,g1,s0;9");
        x.heard(0, NONE);
        Check.due("0 never heard", x.began(), 14);
        x.heard(3, NONE);
        Check.due("3 never heard", x.began(), 6);
        x.heard(1, 1);
        Check.due("1 heard on day 1", x.began(), 4);
        x.tell(0, 0);
        Check.due("a told tunnel is another one", x.began(), 4);
    }

    private static void beganGoesByNext() {
        DugBySaid x = Check.hilled("m1,m9,m9;9");
        x.heard(1, 1);
        Check.due("0 began", x.began(), 1);
        x.next(2, 1);
        Check.due("or 2", x.began(), 5);
    }

    private static void asksTheBest() {
        DugBySaid x = Check.hilled("m1,m2,m3,m4,m5,m9;9");
        // That 4 never heard of it tells of 5, as well as a DAY does.
        Check.due("the last but one tells all", x.ask(), 4);
        DugBySaid y = Check.hilled("m9,m2,m3,m9;9");
        Check.due("the end of a short chain", y.ask(), 3);
        x.heard(0, 0);
        Check.due("who began is known, so the first", x.ask(), 0);
        y.heard(3, NONE);
        Check.due("one is left, so the first", y.ask(), 0);
    }

    private static void asksTheLeast() {
        DugBySaid x = Check.hilled("m9,m9,m9;9");
        Check.due("all alike", x.ask(), 0);
        x.heard(0, NONE);
        Check.due("to ask 0 again tells nothing", x.ask(), 1);
        DugBySaid y = Check.hilled("m1,m2,m0;9");
        Check.due("in a ring each tells all", y.ask(), 0);
    }

    private static void asksNobody() {
        DugBySaid x = Check.hilled("m1,m0;9");
        x.heard(0, 5);
        Check.due("nobody began", x.began(), 0);
        Check.due("nobody to ask", x.ask(), NONE);
    }
}
