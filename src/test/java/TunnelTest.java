/** Promises 9 to 12: tell, day, deny, tunnel. */
public final class TunnelTest {
    private static final int UNKNOWN = -101, OUTSIDE = -102, STATE = -103, FULL = -104;
    private static final int[] EDGES = {-1, -2, 6, 32, Integer.MIN_VALUE, Integer.MAX_VALUE};

    public static void main(String[] args) {
        tells();
        tellRefusals();
        days();
        atOnce();
        toldBetweenDays();
        changedNext();
        manyDays();
        denials();
        rivers();
        inTheEnd();
        tunnelRefusals();
        Check.end();
    }

    private static void is(DugBySaid x, int tunnel, int length, int heard, int last, int denied) {
        Check.due("length of " + tunnel, x.tunnel(tunnel, 0), length);
        Check.due("who heard of " + tunnel, x.tunnel(tunnel, 1), heard);
        Check.due("who heard last of " + tunnel, x.tunnel(tunnel, 2), last);
        Check.due("denials of " + tunnel, x.tunnel(tunnel, 3), denied);
    }

    private static void tells() {
        DugBySaid x = Check.hilled("m9,s9,g9,c9,p9;9");
        Check.due("a man", x.tell(0, 0), 1);
        Check.due("a gossip", x.tell(0, 2), 2);
        Check.due("a child", x.tell(0, 3), 4);
        Check.due("a sceptic", x.tell(0, 1), 3);
        Check.due("a priest", x.tell(0, 4), 5);
        is(x, 0, 5, 31, 31, 0);
        Check.due("a sceptic alone", x.tell(1, 1), 0);
        Check.due("a man behind him", x.tell(1, 0), 0);
        Check.due("and a gossip", x.tell(1, 2), 1);
        is(x, 1, 1, 7, 7, 0);
        is(x, 2, 0, 0, 0, 0);
    }

    private static void tellRefusals() {
        DugBySaid x = Check.hilled("m1,m0;9");
        x.tell(2, 0);
        long before = x.digest();
        Check.due("told before", x.tell(2, 0), STATE);
        Check.due("no such tunnel", x.tell(3, 0), UNKNOWN);
        Check.due("no such person", x.tell(2, 2), UNKNOWN);
        for (int edge : EDGES) {
            Check.due("tell(" + edge + ", 0)", x.tell(edge, 0), UNKNOWN);
            Check.due("tell(2, " + edge + ")", x.tell(2, edge), UNKNOWN);
        }
        Check.due("refusals change nothing", x.digest(), before);
        x.day();
        Check.due("he heard of it from another", x.tell(2, 1), STATE);
    }

    private static void days() {
        DugBySaid x = Check.hilled("g1,m3,c0,p4,s2,m0;5");
        Check.due("a day of nothing", x.day(), 0);
        x.tell(0, 0);
        x.tell(1, 3);
        Check.due("day 2", x.day(), 4);
        is(x, 0, 4, 7, 6, 0);
        is(x, 1, 2, 56, 48, 0);
        Check.due("day 3", x.day(), 2);
        is(x, 0, 6, 15, 8, 0);
        is(x, 1, 3, 57, 1, 0);
        Check.due("day 4", x.day(), 4);
        is(x, 0, 6, 63, 48, 0);
        is(x, 1, 6, 63, 6, 0);
        Check.due("day 5", x.day(), 0);
        is(x, 0, 6, 63, 0, 0);
        Check.due("days", x.count(2), 5);
    }

    private static void atOnce() {
        DugBySaid x = Check.hilled("m1,m2,m3,m9;9");
        x.tell(0, 0);
        Check.due("it goes one step a day", x.day(), 1);
        is(x, 0, 2, 3, 2, 0);
        DugBySaid y = Check.hilled("m2,m2,m9;9");
        y.tell(0, 0);
        y.tell(0, 1);
        Check.due("told by two, he hears once", y.day(), 1);
        is(y, 0, 3, 7, 4, 0);
        y.tell(1, 0);
        y.tell(2, 0);
        Check.due("of two tunnels: two", y.day(), 2);
    }

    private static void toldBetweenDays() {
        DugBySaid x = Check.hilled("m1,m9,m3,m9;9");
        x.tell(0, 0);
        x.day();
        x.tell(0, 2);
        is(x, 0, 3, 7, 6, 0);
        Check.due("only the new one tells", x.day(), 1);
        is(x, 0, 4, 15, 8, 0);
    }

    private static void changedNext() {
        DugBySaid x = Check.hilled("m1,m9,m9;9");
        x.tell(0, 0);
        x.next(0, 2);
        Check.due("he tells the new next", x.day(), 1);
        is(x, 0, 2, 5, 4, 0);
        x.next(0, 1);
        Check.due("he has told it, and tells no more", x.day(), 0);
    }

    private static void manyDays() {
        DugBySaid x = Check.hilled("m1,m0;9");
        for (int day = 1; day <= 99; day++) {
            Check.due("day " + day, x.day(), 0);
        }
        x.tell(0, 0);
        long before = x.digest();
        Check.due("day 100", x.day(), FULL);
        Check.due("day 100 changes nothing", x.digest(), before);
        Check.due("days", x.count(2), 99);
    }

    private static void denials() {
        DugBySaid x = Check.hilled("c9,c9,m9;9");
        x.tell(1, 0);
        x.tell(1, 1);
        for (int times = 1; times <= 9; times++) {
            Check.due("denial " + times, x.deny(1), Math.max(0, 4 - times));
        }
        Check.due("denial 10", x.deny(1), FULL);
        is(x, 1, 0, 3, 3, 9);
        Check.due("a denied tunnel stays short", x.tell(1, 2), 0);
        Check.due("another tunnel", x.deny(0), 0);
        is(x, 0, 0, 0, 0, 1);
        Check.due("less by it later", x.tell(0, 0), 1);
        Check.due("deny(3)", x.deny(3), UNKNOWN);
        for (int edge : EDGES) {
            Check.due("deny(" + edge + ")", x.deny(edge), UNKNOWN);
        }
    }

    private static void rivers() {
        DugBySaid x = Check.hilled("c9,c9,c9,p9;3");
        x.tell(0, 0);
        Check.due("up to the river", x.tell(0, 1), 3);
        Check.due("a denial is taken ahead of the river", x.deny(0), 3);
        Check.due("then shorter", x.deny(0), 2);
        Check.due("up to it again", x.tell(0, 2), 3);
        Check.due("a priest shouts", x.tell(0, 3), 6);
        Check.due("of another tunnel", x.tell(1, 0), 2);
        Check.due("of which no priest heard", x.tell(1, 1), 3);
    }

    private static void inTheEnd() {
        DugBySaid x = Check.hilled("m1,m2,m3,m9;9");
        x.tell(0, 0);
        Check.due("all will hear", x.tunnel(0, 4), 4);
        x.deny(0);
        Check.due("less the denial", x.tunnel(0, 4), 3);
        x.day();
        x.day();
        Check.due("still so", x.tunnel(0, 4), 3);
        x.next(2, -1);
        Check.due("the chain is cut", x.tunnel(0, 4), 2);
        x.next(0, 3);
        Check.due("he who told tells no more", x.tunnel(0, 4), 2);
        Check.due("of one untold", x.tunnel(1, 4), 0);
        is(x, 0, 2, 7, 4, 1);
    }

    private static void tunnelRefusals() {
        DugBySaid x = Check.hilled("m1,m0;9");
        Check.due("tunnel(3, 0)", x.tunnel(3, 0), UNKNOWN);
        Check.due("tunnel(0, 5)", x.tunnel(0, 5), OUTSIDE);
        for (int edge : EDGES) {
            Check.due("tunnel(" + edge + ", 0)", x.tunnel(edge, 0), UNKNOWN);
            Check.due("tunnel(" + edge + ", 5)", x.tunnel(edge, 5), UNKNOWN);
            Check.due("tunnel(2, " + edge + ")", x.tunnel(2, edge), OUTSIDE);
        }
    }
}
