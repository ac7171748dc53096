import java.math.BigInteger;

/** Edges of what 'Terms' tells of AIM, ASKED and MARKETS, and of promises 13 to 18. */
final class AskEdges {
    private static final int NONE = Twin.NONE, UNKNOWN = Twin.UNKNOWN, OUTSIDE = Twin.OUTSIDE;
    private static final int STATE = Twin.STATE, FULL = Twin.FULL;
    private static final int[] WRONG_WHATS = {-1, 2, 3, -102, Integer.MIN_VALUE, Integer.MAX_VALUE};

    private AskEdges() {
    }

    static void all() {
        aimIsJustSoLong();
        aimsTheLeast();
        aimOfNone();
        aimOutside();
        aimWithoutHill();
        askedEightAtMost();
        askedDays();
        heardRefusals();
        forgetsAll();
        beganOnDayNought();
        beganNever();
        beganWithoutHill();
        askWhenFewCanHaveBegun();
        askTheLeast();
        askWithoutHill();
        marketTimes();
        marketSeeds();
        marketRests();
        marketDraws();
        marketRefusals();
        marketsWithoutHill();
    }

    private static void aims(String hill, int length, int few, int which) {
        DugBySaid x = Check.hilled(hill);
        Check.due("aim(" + length + ", 0) of " + hill, x.aim(length, 0), few);
        Check.due("aim(" + length + ", 1) of " + hill, x.aim(length, 1), which);
    }

    private static void aimIsJustSoLong() {
        Doc.says("Terms", "so that in the end it is just so long");
        aims("c9,c9;9", 1, NONE, NONE);
        aims("c9,c9;9", 2, 1, 1);
        aims("c9,c9;9", 3, NONE, NONE);
        aims("c9,c9;9", 4, 2, 3);
        aims("c9,c9;9", 5, NONE, NONE);
        aims("c9,c9;3", 3, 2, 3);
        aims("c9,c9;3", 4, NONE, NONE);
        aims("c9,p9;3", 4, 2, 3);
        aims("c9,c9;1", 1, 1, 1);
        aims("c9,c9;1", 2, NONE, NONE);
    }

    private static void aimsTheLeast() {
        Doc.says("Terms", "to which few to tell (all on one DAY) of a new TUNNEL");
        Doc.says("Terms", "as bits; of like ones the least; none.");
        aims("m9,m9,m9;9", 1, 1, 1);
        aims("m9,m9,m9;9", 2, 2, 3);
        aims("s9,m9,m9,m9;9", 2, 2, 6);
        // Bits 3 are less than bits 4, but one is fewer than two.
        aims("m9,m9,c9;9", 2, 1, 4);
        aims("m9,m9,m9,m9,m9,m5;9", 2, 2, 3);
        aims("m9,m9,m9,m9,m9,m0;9", 2, 1, 32);
        // The same as 4 and 8, each alone; the less is told.
        aims("m9,m9,c9,c9;9", 2, 1, 4);
        aims("m9,m9,m9,m9,m9,m9;9", 6, 6, 63);
    }

    private static void aimOfNone() {
        Doc.says("Promise 13", "what = 0 to how few, 1 which, as bits; NONE: there are none.");
        aims("s9,s9;9", 1, NONE, NONE);
        aims("m9,s9;9", 1, 1, 1);
        aims("m1,s9;9", 1, NONE, NONE);
        aims("p1,p2,p3,p4,p5,p0;1", 11, NONE, NONE);
        aims("p1,p2,p3,p4,p5,p0;1", 12, 1, 1);
    }

    private static void aimOutside() {
        Doc.says("Promise 13", "OUTSIDE: length (1 to 12), what");
        DugBySaid x = Check.hilled("p9,p9,p9,p9,p9,p9;1");
        Check.due("aim(1, 0)", x.aim(1, 0), NONE);
        Check.due("aim(2, 0)", x.aim(2, 0), 1);
        Check.due("aim(12, 0)", x.aim(12, 0), 6);
        Check.due("aim(12, 1)", x.aim(12, 1), 63);
        for (int length : new int[] {-1, 0, 13, 14, -102, Integer.MIN_VALUE, Integer.MAX_VALUE}) {
            for (int what : new int[] {0, 1, 2}) {
                String call = "aim(" + length + ", " + what + ")";
                Twin.refuses(call, Twin::isBusy, y -> y.aim(length, what), OUTSIDE);
                Twin.refuses(call + " without a hill: outside is told first", Twin::isNew, y -> y.aim(length, what), OUTSIDE);
            }
        }
        for (int what : WRONG_WHATS) {
            for (int length : new int[] {1, 12}) {
                String call = "aim(" + length + ", " + what + ")";
                Twin.refuses(call, Twin::isBusy, y -> y.aim(length, what), OUTSIDE);
                Twin.refuses(call + " without a hill: outside is told first", Twin::isNew, y -> y.aim(length, what), OUTSIDE);
            }
        }
        Twin.refuses("aim(3, 1), which is none of these", Twin::isSmall, y -> y.aim(3, 1), NONE);
    }

    private static void aimWithoutHill() {
        Doc.says("Promise 13", "STATE: no HILL.");
        for (int length : new int[] {1, 12}) {
            for (int what : new int[] {0, 1}) {
                Twin.refuses("aim(" + length + ", " + what + ") without a hill", Twin::isNew,
                        x -> x.aim(length, what), STATE);
            }
        }
    }

    private static void askedEightAtMost() {
        Doc.says("Terms", "ASKED (8 at most)");
        Doc.says("Promise 14", "It is ASKED: how much is.");
        Doc.says("Promise 14", "FULL.");
        DugBySaid x = Check.hilled("m1,m0;9");
        for (int much = 1; much <= 8; much++) {
            Check.due("asked " + much, x.heard(1, 1), much);
            Check.due("count(6)", x.count(6), much);
        }
        Check.due("the ninth", x.heard(1, 1), FULL);
        Check.due("the ninth, of another", x.heard(0, NONE), FULL);
        Check.due("still eight", x.count(6), 8);
        Check.due("and as they were", x.began(), 1);
        Twin.refuses("the ninth", AskEdges::isAsked, y -> y.heard(0, 0), FULL);
    }

    private static void isAsked(DugBySaid x) {
        Twin.isBusy(x);
        for (int much = x.count(6); much < 8; much++) {
            x.heard(3, 2);
        }
    }

    private static void askedDays() {
        Doc.says("Terms", "that one HEARD of a TUNNEL on DAY so many (0 to 9), or never (NONE)");
        Doc.says("Promise 14", "OUTSIDE: day (0 to 9; NONE: never);");
        for (int day = NONE; day <= 9; day++) {
            Check.due("heard(0, " + day + ")", Check.hilled("m1,m0;9").heard(0, day), 1);
        }
        for (int day : new int[] {-3, -2, 10, 11}) {
            Twin.refuses("heard(0, " + day + ")", Twin::isBusy, x -> x.heard(0, day), OUTSIDE);
        }
        for (int far : Twin.FAR) {
            Twin.refuses("heard(0, " + far + ")", Twin::isBusy, x -> x.heard(0, far), OUTSIDE);
            Twin.refuses("heard(0, " + far + "), full: outside first", AskEdges::isAsked, x -> x.heard(0, far), OUTSIDE);
        }
        DugBySaid chain = Check.hilled("m1,m2,m3,m4,m5,m9;9");
        for (int day = 0; day <= 9; day++) {
            chain.forget();
            chain.heard(5, day);
            Check.due("5 heard on day " + day, chain.began(), day <= 5 ? 1 << (5 - day) : 0);
        }
    }

    private static void heardRefusals() {
        Doc.says("Promise 14", "UNKNOWN: person;");
        for (int day : new int[] {-2, NONE, 0, 9, 10}) {
            Twin.refuses("heard(0, " + day + ") without a hill", Twin::isNew, x -> x.heard(0, day), UNKNOWN);
            for (int person : new int[] {-1, 6}) {
                String call = "heard(" + person + ", " + day + ")";
                Twin.refuses(call, Twin::isBusy, x -> x.heard(person, day), UNKNOWN);
                Twin.refuses(call + ", full: unknown first", AskEdges::isAsked, x -> x.heard(person, day), UNKNOWN);
            }
            Twin.refuses("heard(2, " + day + ") of two", Twin::isSmall, x -> x.heard(2, day), UNKNOWN);
        }
        for (int far : Twin.FAR) {
            Twin.refuses("heard(" + far + ", 0)", Twin::isBusy, x -> x.heard(far, 0), UNKNOWN);
        }
        DugBySaid x = Check.hilled("m1,m0,m0,m0,m0,m0;9");
        Check.due("the first one is known", x.heard(0, 0), 1);
        Check.due("the last one is known", x.heard(5, 0), 2);
    }

    private static void forgetsAll() {
        Doc.says("Promise 15", "Nothing is ASKED any more: how much was.");
        for (int much = 0; much <= 8; much++) {
            DugBySaid x = Check.hilled("m1,m0;9");
            for (int one = 0; one < much; one++) {
                x.heard(0, 9);
            }
            Check.due("nobody, if any is asked", x.began(), much == 0 ? 3 : 0);
            Check.due("forget()", x.forget(), much);
            Check.due("forget() again", x.forget(), 0);
            Check.due("all can have begun", x.began(), 3);
            Check.due("room again", x.heard(0, 0), 1);
        }
        Check.due("forget() without a hill", new DugBySaid().forget(), 0);
    }

    private static void beganOnDayNought() {
        Doc.says("Terms", "which one alone began to tell: he HEARD of it on DAY 0");
        Doc.says("Terms", "who it can have been, so that all that is ASKED is so: as bits");
        Doc.says("Promise 16", "BEGAN, as bits.");
        DugBySaid x = Check.hilled("m1,m2,m0;9");
        Check.due("nothing is asked: all", x.began(), 7);
        for (int person = 0; person < 3; person++) {
            x.forget();
            x.heard(person, 0);
            Check.due(person + " heard on day 0", x.began(), 1 << person);
            x.heard((person + 1) % 3, 1);
            Check.due("and the next one on day 1", x.began(), 1 << person);
            x.heard((person + 1) % 3, 0);
            Check.due("two cannot have begun", x.began(), 0);
        }
        x.forget();
        x.heard(0, 2);
        Check.due("the last day", x.began(), 2);
        x.forget();
        x.heard(0, 3);
        Check.due("a day behind it", x.began(), 0);
    }

    private static void beganNever() {
        DugBySaid x = Check.hilled("m1,m9,m1;9");
        x.heard(0, NONE);
        Check.due("0 never: not he", x.began(), 6);
        x.heard(2, NONE);
        Check.due("2 never: not he", x.began(), 2);
        x.heard(1, NONE);
        Check.due("nobody ever: nobody", x.began(), 0);
        DugBySaid ring = Check.hilled("m1,m0;9");
        ring.heard(0, NONE);
        Check.due("in a ring all hear", ring.began(), 0);
    }

    private static void beganWithoutHill() {
        Doc.says("Promise 16", "STATE: no HILL.");
        Twin.refuses("began() without a hill", Twin::isNew, DugBySaid::began, STATE);
        Twin.refuses("began() with letters alone", x -> Check.write(x, "m1,m0;9"), DugBySaid::began, STATE);
        Check.due("began() with one", Check.hilled("m1,m0;9").began(), 3);
    }

    private static void askWhenFewCanHaveBegun() {
        Doc.says("Terms", "none, if there are none");
        Doc.says("Promise 17", "ASK; NONE.");
        DugBySaid x = Check.hilled("m9,m9,m9;9");
        Check.due("three can have", x.ask(), 0);
        x.heard(0, NONE);
        Check.due("two can have", x.ask(), 1);
        x.heard(1, NONE);
        Check.due("one can have", x.began(), 4);
        Check.due("anybody may be asked then", x.ask(), 0);
        x.heard(2, NONE);
        Check.due("none can have", x.began(), 0);
        Check.due("nobody is to be asked", x.ask(), NONE);
        x.forget();
        Check.due("again somebody is", x.ask(), 0);
        DugBySaid chain = Check.hilled("m1,m2,m3,m4,m5,m9;9");
        chain.heard(5, 5);
        Check.due("by the last day that there can be", chain.began(), 1);
        Check.due("he who heard on it leaves one, too", chain.ask(), 0);
    }

    private static void askTheLeast() {
        Doc.says("Terms", "so that fewest of these are left at worst, whatever he answers: of like ones the least");
        Check.due("each leaves one", Check.hilled("m1,m2,m0;9").ask(), 0);
        Check.due("0 leaves two, 1 and 2 one", Check.hilled("m2,m9,m1;9").ask(), 1);
        Check.due("3 and 4 leave two, 2 three", Check.hilled("m2,m2,m3,m4,m5,m9;9").ask(), 3);
        Check.due("never is an answer, too", Check.hilled("m1,m9;9").ask(), 0);
        // He tells of himself and of 5, and leaves four; any other leaves five.
        Check.due("3 leaves four", Check.hilled("m9,m9,m9,m9,m9,m3;9").ask(), 3);
    }

    private static void askWithoutHill() {
        Doc.says("Promise 17", "STATE: no HILL.");
        Twin.refuses("ask() without a hill", Twin::isNew, DugBySaid::ask, STATE);
        Twin.refuses("ask() with letters alone", x -> Check.write(x, "m1,m0;9"), DugBySaid::ask, STATE);
        Check.due("ask() with one", Check.hilled("m1,m0;9").ask(), 0);
    }

    private static void marketTimes() {
        Doc.says("Promise 18", "OUTSIDE: times (1 to 60)");
        DugBySaid x = Check.hilled("p1,p2,p3,p4,p5,p0;1");
        for (int times = 1; times <= 60; times++) {
            Check.due(times + " together", x.markets(times, 7, 0), 12 * times);
            Check.due("the longest", x.markets(times, 7, 1), 12);
        }
        for (int times : new int[] {-1, 0, 61, 62, -60, Integer.MIN_VALUE, Integer.MAX_VALUE}) {
            refusesMarkets(times, 1, 0);
        }
        Check.due("all are sceptics: 0 together", Check.hilled("s9,s9;9").markets(60, 1, 0), 0);
        Check.due("the longest: 0", Check.hilled("s9,s9;9").markets(60, 1, 1), 0);
    }

    private static void refusesMarkets(int times, int seed, int what) {
        String call = "markets(" + times + ", " + seed + ", " + what + ")";
        Twin.refuses(call, Twin::isBusy, x -> x.markets(times, seed, what), OUTSIDE);
        Twin.refuses(call + " without a hill: outside is told first", Twin::isNew, x -> x.markets(times, seed, what), OUTSIDE);
    }

    private static void marketSeeds() {
        Doc.says("Promise 18", "seed (0 at least)");
        DugBySaid x = Check.hilled("m1,m0;9");
        Check.due("the seed behind 0", x.markets(1, 0, 2), 12345);
        Check.due("the seed behind the largest", x.markets(1, Integer.MAX_VALUE, 2), 1043980748);
        for (int seed : new int[] {-1, -2, -102, Integer.MIN_VALUE, Integer.MIN_VALUE + 1}) {
            refusesMarkets(1, seed, 0);
            refusesMarkets(60, seed, 2);
        }
    }

    /** The seed that the next one is drawn of. */
    private static int seedAhead(long drawn) {
        BigInteger whole = BigInteger.ONE.shiftLeft(31);
        BigInteger times = BigInteger.valueOf(1103515245L).modInverse(whole);
        return BigInteger.valueOf(drawn - 12345).multiply(times).mod(whole).intValue();
    }

    private static void marketRests() {
        Doc.says("Terms", "1103515245 times it and 12345, its rest by 2 to the 31");
        DugBySaid x = Check.hilled("m1,m0;9");
        long[] drawn = {0, 1, 12344, 12345, 65535, 65536, (1L << 30) - 1, 1L << 30, (1L << 31) - 2, (1L << 31) - 1};
        for (long one : drawn) {
            Check.due("the seed " + one, x.markets(1, seedAhead(one), 2), one);
            Check.due("by two draws", x.markets(2, seedAhead(seedAhead(one)), 2), one);
        }
    }

    private static void marketDraws() {
        Doc.says("Terms", "each told one by a DRAW of how many there are");
        Doc.says("Terms", "then that by 65536 (rounded down), its rest");
        drawsAmong("s9,m9;9", new int[] {0, 1});
        drawsAmong("s9,m9,c9;9", new int[] {0, 1, 2});
        drawsAmong("s9,m9,c9,m2,c2,c4;9", new int[] {0, 1, 2, 3, 4, 6});
    }

    /** Everybody's ENDS is another, so that it shows who was told. */
    private static void drawsAmong(String hill, int[] ends) {
        DugBySaid x = Check.hilled(hill);
        for (int draw = 0; draw <= 2 * ends.length; draw++) {
            int want = ends[draw % ends.length];
            Check.due("the least seed of draw " + draw, x.markets(1, seedAhead(draw * 65536L), 0), want);
            Check.due("the largest seed of draw " + draw, x.markets(1, seedAhead(draw * 65536L + 65535), 0), want);
            Check.due("the longest of one", x.markets(1, seedAhead(draw * 65536L), 1), want);
        }
        Check.due("the largest draw", x.markets(1, seedAhead((1L << 31) - 1), 0), ends[32767 % ends.length]);
    }

    private static void marketRefusals() {
        Doc.says("Promise 18", "what = 0 how long together, 1 how long the longest one, 2 the SEED then.");
        Doc.says("Promise 18", ", what;");
        DugBySaid x = Check.hilled("m9,c9;9");
        Check.due("what 0", x.markets(2, 0, 0), 2);
        Check.due("what 1", x.markets(2, 0, 1), 1);
        Check.due("what 2", x.markets(2, 0, 2), 1406932606);
        for (int what : new int[] {-1, 3, 4, -102, Integer.MIN_VALUE, Integer.MAX_VALUE}) {
            refusesMarkets(1, 0, what);
            refusesMarkets(60, Integer.MAX_VALUE, what);
        }
        refusesMarkets(0, -1, 3);
    }

    private static void marketsWithoutHill() {
        Doc.says("Promise 18", "STATE: no HILL.");
        for (int what = 0; what <= 2; what++) {
            int which = what;
            Twin.refuses("markets(1, 0, " + what + ") without a hill", Twin::isNew, x -> x.markets(1, 0, which), STATE);
            Twin.refuses("markets(60, 1, " + what + ") with letters alone", x -> Check.write(x, "m1,m0;9"),
                    x -> x.markets(60, 1, which), STATE);
        }
    }
}
