import java.math.BigInteger;

/** Promise 18: markets. */
public final class MarketsTest {
    private static final int OUTSIDE = -102, STATE = -103;
    private static final String[] HILLS = {"m1,m9;9", "m9,c9,p9;1", "g1,m3,c0,p4,s2,m0;5", "s1,s0;9", "p1,p2,p3,p4,p5,p0;1"};

    public static void main(String[] args) {
        knownSeeds();
        for (String hill : HILLS) {
            for (int seed : new int[] {0, 1, 2, 641, 65535, 65536, 1 << 30, Integer.MAX_VALUE}) {
                for (int times : new int[] {1, 2, 7, 60}) {
                    asDrawn(hill, times, seed);
                }
            }
        }
        changesNothing();
        refusals();
        Check.end();
    }

    private static void knownSeeds() {
        DugBySaid x = Check.hilled("m1,m9;9");
        Check.due("the seed behind 0", x.markets(1, 0, 2), 12345);
        Check.due("the seed behind that", x.markets(2, 0, 2), 1406932606);
        Check.due("the seed behind 1", x.markets(1, 1, 2), 1103527590);
    }

    /** By numbers without a limit, so that no wrap can hide in it. */
    private static void asDrawn(String hill, int times, int seed) {
        DugBySaid x = Check.hilled(hill);
        BigInteger drawn = BigInteger.valueOf(seed);
        int together = 0;
        int longest = 0;
        for (int market = 0; market < times; market++) {
            drawn = drawn.multiply(BigInteger.valueOf(1103515245L)).add(BigInteger.valueOf(12345))
                    .mod(BigInteger.ONE.shiftLeft(31));
            int told = drawn.divide(BigInteger.valueOf(65536)).mod(BigInteger.valueOf(x.count(0))).intValue();
            together += x.person(told, 4);
            longest = Math.max(longest, x.person(told, 4));
        }
        String call = "markets(" + times + ", " + seed + ", ..) of " + hill;
        Check.due(call + " together", x.markets(times, seed, 0), together);
        Check.due(call + " longest", x.markets(times, seed, 1), longest);
        Check.due(call + " seed", x.markets(times, seed, 2), drawn.longValue());
    }

    private static void changesNothing() {
        DugBySaid x = Check.hilled("g1,m3,c0,p4,s2,m0;5");
        x.tell(0, 0);
        long before = x.digest();
        x.markets(60, 5, 0);
        Check.due("markets are not held", x.digest(), before);
    }

    private static void refusals() {
        DugBySaid x = Check.hilled("m1,m9;9");
        int[] wrongTimes = {0, -1, 61, Integer.MIN_VALUE, Integer.MAX_VALUE};
        for (int times : wrongTimes) {
            Check.due("markets(" + times + ", 1, 0)", x.markets(times, 1, 0), OUTSIDE);
        }
        for (int seed : new int[] {-1, -2, Integer.MIN_VALUE}) {
            Check.due("markets(1, " + seed + ", 0)", x.markets(1, seed, 0), OUTSIDE);
        }
        for (int what : new int[] {-1, 3, Integer.MIN_VALUE, Integer.MAX_VALUE}) {
            Check.due("markets(1, 1, " + what + ")", x.markets(1, 1, what), OUTSIDE);
        }
        DugBySaid none = new DugBySaid();
        Check.due("no hill", none.markets(60, 0, 2), STATE);
        Check.due("no hill, wrong times", none.markets(61, 0, 2), OUTSIDE);
        Check.due("no hill, wrong seed", none.markets(1, -1, 2), OUTSIDE);
        Check.due("no hill, wrong what", none.markets(1, 0, 3), OUTSIDE);
    }
}
