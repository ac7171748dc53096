/** Promise 13: aim. */
public final class AimTest {
    private static final int NONE = -1, OUTSIDE = -102;

    public static void main(String[] args) {
        aims("m9,m9,m9,m9,m9,m9;9", 1, 1, 1);
        aims("m9,m9,m9,m9,m9,m9;9", 6, 6, 63);
        aims("m9,m9,m9,m9,m9,m9;9", 7, NONE, NONE);
        aims("m9,m9,m9,m9,m9,m9;3", 3, 3, 7);
        aims("m9,m9,m9,m9,m9,m9;3", 4, NONE, NONE);
        fewestThenLeast();
        aims("p9,p9,p9,p9,p9,p9;1", 12, 6, 63);
        aims("p1,p2,p3,p4,p5,p0;1", 12, 1, 1);
        aims("s9,s9,s9;9", 1, NONE, NONE);
        aims("m9,s9,c9;9", 1, 1, 1);
        aims("s9,s9,c9;9", 1, 2, 5);
        aims("m1,m2,m9;9", 1, 1, 4);
        aims("m1,m2,m9;9", 2, 1, 2);
        aims("m1,m2,m9;9", 3, 1, 1);
        aims("m1,s9,m9,c9;9", 4, NONE, NONE);
        goesByWhatWouldBe();
        refusals();
        Check.end();
    }

    private static void aims(String hill, int length, int few, int which) {
        DugBySaid x = Check.hilled(hill);
        Check.due("aim(" + length + ", 0) of " + hill, x.aim(length, 0), few);
        Check.due("aim(" + length + ", 1) of " + hill, x.aim(length, 1), which);
        Check.due("nobody is told by it", x.count(4), 0);
    }

    /** Two men are the least bits for 2, but one child is fewer; of two children the first is the least. */
    private static void fewestThenLeast() {
        aims("m9,m9,c9,c9;9", 2, 1, 4);
        aims("m9,m9,c9,c9;9", 3, 2, 5);
        aims("m9,m9,c9,c9;9", 4, 2, 12);
        aims("m9,m9,c9,c9;9", 5, 3, 13);
    }

    private static void goesByWhatWouldBe() {
        DugBySaid x = Check.hilled("m1,m2,m9;9");
        x.tell(0, 0);
        x.deny(0);
        Check.due("a new tunnel is not denied", x.aim(3, 1), 1);
        x.next(1, -1);
        Check.due("the chain is cut", x.aim(3, 0), 2);
        Check.due("whom to tell then", x.aim(3, 1), 5);
    }

    private static void refusals() {
        DugBySaid x = Check.hilled("m1,m0;9");
        int[] edges = {-1, -101, Integer.MIN_VALUE, Integer.MAX_VALUE};
        for (int edge : edges) {
            Check.due("aim(" + edge + ", 0)", x.aim(edge, 0), OUTSIDE);
            Check.due("aim(1, " + edge + ")", x.aim(1, edge), OUTSIDE);
        }
        Check.due("aim(0, 0)", x.aim(0, 0), OUTSIDE);
        Check.due("aim(13, 1)", x.aim(13, 1), OUTSIDE);
        Check.due("aim(12, 1)", x.aim(12, 1), NONE);
        Check.due("aim(1, 2)", x.aim(1, 2), OUTSIDE);
        Check.due("no hill, wrong length", new DugBySaid().aim(13, 0), OUTSIDE);
        Check.due("no hill, wrong what", new DugBySaid().aim(1, 2), OUTSIDE);
        Check.due("no hill", new DugBySaid().aim(1, 1), -103);
    }
}
