/** Edges of what 'Terms' tells of tunnels, and of promises 9 to 12. */
final class TunnelEdges {
    private static final int NONE = Twin.NONE, UNKNOWN = Twin.UNKNOWN, OUTSIDE = Twin.OUTSIDE;
    private static final int STATE = Twin.STATE, FULL = Twin.FULL;

    private TunnelEdges() {
    }

    static void all() {
        threeTunnels();
        yardsForTheFirstTime();
        noughtAtLeast();
        noLongerThanTheRiver();
        denialsAheadOfTheRiver();
        butIfAPriestHeard();
        heardLast();
        notHeardBefore();
        atOnce();
        tellsHowLong();
        tellUnknown();
        tellState();
        ofTwoTwo();
        dayWithoutHill();
        day100();
        deniedHowLong();
        denyUnknown();
        denied9Times();
        inTheEnd();
        tunnelRefusals();
    }

    private static void threeTunnels() {
        Doc.says("Terms", "There are TUNNELS 0, 1, 2.");
        DugBySaid x = Check.hilled("m1,m0;9");
        for (int tunnel = 0; tunnel <= 2; tunnel++) {
            Check.due("tunnel(" + tunnel + ", 0)", x.tunnel(tunnel, 0), 0);
            Check.due("tell(" + tunnel + ", 0)", x.tell(tunnel, 0), 1);
            Check.due("tunnel(" + tunnel + ", 1)", x.tunnel(tunnel, 1), 1);
        }
        Check.due("tunnel(-1, 0)", x.tunnel(-1, 0), UNKNOWN);
        Check.due("tunnel(3, 0)", x.tunnel(3, 0), UNKNOWN);
        Check.due("each is told of apart", x.person(0, 3), 7);
    }

    private static void yardsForTheFirstTime() {
        Doc.says("Terms", "One who HEARS of a TUNNEL (for the first time) makes it 1 YARD longer; a CHILD, a PRIEST 2; a SCEPTIC 1 less.");
        DugBySaid x = Check.hilled("m1,g0,c0,p0,s0;9");
        int[] lengths = {1, 2, 4, 6, 5};
        for (int person = 0; person < 5; person++) {
            Check.due("told to " + person, x.tell(0, person), lengths[person]);
        }
        Check.due("all have heard, so nobody hears", x.day(), 0);
        Check.due("and it is no longer", x.tunnel(0, 0), 5);
        Check.due("nor by telling again", x.tell(0, 2), STATE);
        Check.due("still so long", x.tunnel(0, 0), 5);
    }

    private static void noughtAtLeast() {
        Doc.says("Terms", "less how often it was DENIED; 0 at least");
        DugBySaid x = Check.hilled("m9,m9,s9,s9;9");
        Check.due("one yard", x.tell(0, 0), 1);
        Check.due("none left", x.deny(0), 0);
        Check.due("not below", x.deny(0), 0);
        Check.due("what was below is owed", x.tell(0, 1), 0);
        Check.due("a sceptic ahead of all", x.tell(1, 2), 0);
        Check.due("and another", x.tell(1, 3), 0);
        Check.due("both are owed", x.tell(1, 0), 0);
        Check.due("just paid", x.tell(1, 1), 0);
        Check.due("both are at 0", x.count(3), 0);
        DugBySaid y = Check.hilled("m9,m9,s9;9");
        y.tell(0, 2);
        y.tell(0, 0);
        Check.due("one yard is over", y.tell(0, 1), 1);
    }

    private static void noLongerThanTheRiver() {
        Doc.says("Terms", "no longer than the RIVER tells");
        for (int river = 1; river <= 6; river++) {
            DugBySaid x = Check.hilled("m9,m9,m9,m9,m9,m9;" + river);
            for (int people = 1; people <= 6; people++) {
                Check.due(people + " yards, river " + river, x.tell(0, people - 1), Math.min(people, river));
            }
            Check.due("told of it in all", x.count(3), river);
        }
        DugBySaid nine = Check.hilled("c9,c9,c9,c9,c9,m9;9");
        int[] lengths = {2, 4, 6, 8, 9};
        for (int person = 0; person < 5; person++) {
            Check.due("a child more, river 9", nine.tell(0, person), lengths[person]);
        }
        Check.due("no longer", nine.tell(0, 5), 9);
        Check.due("denied: 10 yards", nine.deny(0), 9);
        Check.due("denied: 9 yards", nine.deny(0), 9);
        Check.due("denied: 8 yards", nine.deny(0), 8);
    }

    /** The whole sentence, in its order: YARDS, less denials, 0 at least, the RIVER. */
    private static void denialsAheadOfTheRiver() {
        Doc.says("Terms", "all YARDS of those who HEARD of it together, less how often it was DENIED; 0 at least;"
                + " no longer than the RIVER tells, but if a PRIEST has HEARD of it.");
        for (int river = 1; river <= 9; river++) {
            for (int told = 1; told <= 6; told++) {
                deniesOneByOne("c9,c9,c9,c9,c9,c9;" + river, told, river);
                deniesOneByOne("p9,c9,c9,c9,c9,c9;" + river, told, 12);
            }
        }
    }

    private static void deniesOneByOne(String hill, int told, int limit) {
        DugBySaid x = Check.hilled(hill);
        for (int person = 0; person < told; person++) {
            x.tell(0, person);
        }
        for (int denials = 1; denials <= 9; denials++) {
            int due = Math.min(Math.max(2 * told - denials, 0), limit);
            String where = " of " + hill + ", told to " + told + ", denial " + denials;
            Check.due("deny(0)" + where, x.deny(0), due);
            Check.due("tunnel(0, 4)" + where, x.tunnel(0, 4), due);
        }
    }

    private static void butIfAPriestHeard() {
        Doc.says("Terms", "but if a PRIEST has HEARD of it");
        DugBySaid x = Check.hilled("c9,c9,c9,p9;1");
        Check.due("the priest has not heard", x.tell(0, 0), 1);
        Check.due("still not", x.tell(0, 1), 1);
        Check.due("he hears of another one", x.tell(1, 3), 2);
        Check.due("not of this one", x.tunnel(0, 0), 1);
        Check.due("now he has", x.tell(0, 3), 6);
        Check.due("and behind him", x.tell(0, 2), 8);
        Check.due("a gossip does not shout", Check.hilled("g1,g0;1").person(0, 4), 1);
        Check.due("a priest does", Check.hilled("g1,p0;1").person(0, 4), 3);
        for (int denials = 1; denials <= 9; denials++) {
            Check.due("denied " + denials, x.deny(0), Math.max(0, 8 - denials));
        }
    }

    private static void heardLast() {
        Doc.says("Terms", "who HEARD of it last (told it himself, or on the DAY before)");
        DugBySaid x = Check.hilled("m1,m2,m3,m9,m5,m9;9");
        Check.due("nobody heard last", x.tunnel(0, 2), 0);
        x.tell(0, 0);
        Check.due("told it himself", x.tunnel(0, 2), 1);
        x.day();
        Check.due("on the day before", x.tunnel(0, 2), 2);
        x.tell(0, 4);
        Check.due("both", x.tunnel(0, 2), 18);
        Check.due("both tell", x.day(), 2);
        Check.due("two days before is not last", x.tunnel(0, 2), 36);
        x.day();
        Check.due("the last of the chain", x.tunnel(0, 2), 8);
        Check.due("nobody more", x.day(), 0);
        Check.due("nobody heard last then", x.tunnel(0, 2), 0);
        x.next(3, 0);
        x.next(5, 0);
        Check.due("they tell it no more", x.day(), 0);
    }

    private static void notHeardBefore() {
        Doc.says("Terms", "and who have not HEARD of it");
        DugBySaid x = Check.hilled("m1,m0,m1;9");
        x.tell(0, 0);
        x.tell(0, 1);
        Check.due("each tells one who has heard", x.day(), 0);
        Check.due("nobody is last", x.tunnel(0, 2), 0);
        x.tell(1, 2);
        Check.due("of another tunnel he hears", x.day(), 1);
    }

    private static void atOnce() {
        Doc.says("Terms", "So on a DAY all hear it, at once, whom any tell");
        DugBySaid up = Check.hilled("m1,m2,m9;9");
        up.tell(0, 0);
        Check.due("one on the first day, by rising numbers", up.day(), 1);
        Check.due("not the third", up.tunnel(0, 1), 3);
        DugBySaid down = Check.hilled("m9,m0,m1;9");
        down.tell(0, 2);
        Check.due("one on the first day, by falling numbers", down.day(), 1);
        Check.due("not the first", down.tunnel(0, 1), 6);
        DugBySaid both = Check.hilled("m2,m2,m9;9");
        both.tell(0, 0);
        both.tell(0, 1);
        Check.due("told by two, he hears once", both.day(), 1);
        Check.due("a yard by him", both.tunnel(0, 0), 3);
    }

    private static void tellsHowLong() {
        Doc.says("Promise 9", "One is told of a TUNNEL: how long it is then.");
        DugBySaid x = Check.hilled("m1,s0,c0,p0;1");
        Check.due("a sceptic: 0", x.tell(0, 1), 0);
        Check.due("a child: up to the river", x.tell(0, 2), 1);
        Check.due("a priest: over it", x.tell(0, 3), 3);
    }

    private static void tellUnknown() {
        Doc.says("Promise 9", "UNKNOWN: tunnel (0 to 2; also without a HILL), person");
        for (int tunnel = -1; tunnel <= 3; tunnel++) {
            int which = tunnel;
            Twin.refuses("tell(" + tunnel + ", 0) without a hill", Twin::isNew, x -> x.tell(which, 0), UNKNOWN);
            Twin.refuses("tell(" + tunnel + ", -1)", Twin::isBusy, x -> x.tell(which, NONE), UNKNOWN);
            Twin.refuses("tell(" + tunnel + ", 6)", Twin::isBusy, x -> x.tell(which, 6), UNKNOWN);
            Twin.refuses("tell(" + tunnel + ", 2) of two", Twin::isSmall, x -> x.tell(which, 2), UNKNOWN);
        }
        for (int tunnel : new int[] {-1, 3}) {
            Twin.refuses("tell(" + tunnel + ", 0), who has heard", Twin::isBusy, x -> x.tell(tunnel, 0), UNKNOWN);
            Twin.refuses("tell(" + tunnel + ", 4)", Twin::isBusy, x -> x.tell(tunnel, 4), UNKNOWN);
        }
        for (int far : Twin.FAR) {
            Twin.refuses("tell(" + far + ", 0)", Twin::isBusy, x -> x.tell(far, 0), UNKNOWN);
            Twin.refuses("tell(0, " + far + ")", Twin::isBusy, x -> x.tell(0, far), UNKNOWN);
        }
        DugBySaid x = Check.hilled("m1,m0,m0,m0,m0,m0;9");
        Check.due("the first tunnel, the last one", x.tell(0, 5), 1);
        Check.due("the last tunnel, the first one", x.tell(2, 0), 1);
    }

    private static void tellState() {
        Doc.says("Promise 9", "STATE: he has HEARD of it.");
        Twin.refuses("told it himself before", Twin::isBusy, x -> x.tell(1, 5), STATE);
        Twin.refuses("heard it from another", Twin::isBusy, x -> x.tell(0, 1), STATE);
        Twin.refuses("began it", Twin::isBusy, x -> x.tell(0, 0), STATE);
        DugBySaid x = Check.hilled("m1,m0,m9;9");
        Check.due("told of 0", x.tell(0, 0), 1);
        Check.due("of 0 again", x.tell(0, 0), STATE);
        Check.due("of 1", x.tell(1, 0), 1);
        Check.due("another of 0", x.tell(0, 2), 2);
        Check.due("1 is about to hear, but has not", x.tell(0, 1), 3);
    }

    private static void ofTwoTwo() {
        Doc.says("Promise 10", "how many HEAR of any TUNNEL on it (of two: two)");
        for (int tunnels = 0; tunnels <= 3; tunnels++) {
            DugBySaid x = Check.hilled("m1,m9;9");
            for (int tunnel = 0; tunnel < tunnels; tunnel++) {
                x.tell(tunnel, 0);
            }
            Check.due("one hears of " + tunnels, x.day(), tunnels);
            Check.due("then nobody", x.day(), 0);
        }
    }

    private static void dayWithoutHill() {
        Doc.says("Promise 10", "STATE: no HILL");
        Twin.refuses("day() without a hill", Twin::isNew, DugBySaid::day, STATE);
        Twin.refuses("day() with letters alone", x -> Check.write(x, "m1,m0;9"), DugBySaid::day, STATE);
        DugBySaid x = Check.hilled("m1,m0;9");
        Check.due("day() with one", x.day(), 0);
        Check.due("it is day 1", x.count(2), 1);
    }

    private static void day100() {
        Doc.says("Promise 10", "FULL: it would be DAY 100.");
        DugBySaid x = Check.hilled("m1,m0;9");
        for (int day = 1; day <= 98; day++) {
            x.day();
        }
        x.tell(0, 0);
        Check.due("day 99 is a day", x.day(), 1);
        Check.due("it is day 99", x.count(2), 99);
        Check.due("day 100", x.day(), FULL);
        Check.due("it is day 99 still", x.count(2), 99);
        Twin.refuses("day 100", TunnelEdges::isOld, DugBySaid::day, FULL);
        Check.write(x, "m1,m0;9");
        x.hill();
        Check.due("another hill, another day 1", x.day(), 0);
        Check.due("it is day 1", x.count(2), 1);
    }

    private static void isOld(DugBySaid x) {
        Twin.isBusy(x);
        for (int day = x.count(2); day < 98; day++) {
            x.day();
        }
        x.day();
        x.tell(2, 0);
    }

    private static void deniedHowLong() {
        Doc.says("Promise 11", "A TUNNEL is DENIED: how long it is then.");
        DugBySaid x = Check.hilled("c9,m9;2");
        Check.due("a new tunnel", x.deny(0), 0);
        x.tell(1, 0);
        x.tell(1, 1);
        Check.due("3 yards less 1, at the river", x.deny(1), 2);
        Check.due("below it", x.deny(1), 1);
        Check.due("none left", x.deny(1), 0);
        Check.due("none at all", x.deny(1), 0);
        Check.due("how often", x.tunnel(1, 3), 4);
        Check.due("another one is not", x.tunnel(2, 3), 0);
    }

    private static void denyUnknown() {
        Doc.says("Promise 11", "UNKNOWN: tunnel (also without a HILL)");
        for (int tunnel = -1; tunnel <= 3; tunnel++) {
            int which = tunnel;
            Twin.refuses("deny(" + tunnel + ") without a hill", Twin::isNew, x -> x.deny(which), UNKNOWN);
        }
        for (int tunnel : new int[] {-1, 3, 4}) {
            Twin.refuses("deny(" + tunnel + ")", Twin::isBusy, x -> x.deny(tunnel), UNKNOWN);
            Twin.refuses("deny(" + tunnel + "), all denied", TunnelEdges::isDenied, x -> x.deny(tunnel), UNKNOWN);
        }
        for (int far : Twin.FAR) {
            Twin.refuses("deny(" + far + ")", Twin::isBusy, x -> x.deny(far), UNKNOWN);
        }
    }

    private static void isDenied(DugBySaid x) {
        Twin.isBusy(x);
        for (int times = 0; times < 9; times++) {
            x.deny(0);
            x.deny(1);
            x.deny(2);
        }
    }

    private static void denied9Times() {
        Doc.says("Promise 11", "FULL: it was 9 times.");
        for (int tunnel = 0; tunnel <= 2; tunnel++) {
            DugBySaid x = Check.hilled("p9,p9,p9,p9,p9,p9;1");
            for (int person = 0; person < 6; person++) {
                x.tell(tunnel, person);
            }
            for (int times = 1; times <= 9; times++) {
                Check.due("denial " + times + " of " + tunnel, x.deny(tunnel), 12 - times);
            }
            Check.due("denial 10 of " + tunnel, x.deny(tunnel), FULL);
            Check.due("it is as long as before", x.tunnel(tunnel, 0), 3);
            Check.due("9 times", x.tunnel(tunnel, 3), 9);
            Check.due("another one can be", x.deny((tunnel + 1) % 3), 0);
            int which = tunnel;
            Twin.refuses("denial 10 of " + tunnel, TunnelEdges::isDenied, y -> y.deny(which), FULL);
        }
    }

    private static void inTheEnd() {
        Doc.says("Promise 12", "4 how long it will be in the end, if it is not told anybody else, nor DENIED");
        DugBySaid x = Check.hilled("m1,m2,m3,m4,m5,p9;3");
        Check.due("of one untold", x.tunnel(0, 4), 0);
        x.deny(1);
        Check.due("of one denied and untold", x.tunnel(1, 4), 0);
        x.tell(0, 0);
        Check.due("all five days on, over the river", x.tunnel(0, 4), 7);
        for (int times = 1; times <= 9; times++) {
            x.deny(0);
            Check.due("less " + times, x.tunnel(0, 4), Math.max(0, 7 - times));
        }
        DugBySaid y = Check.hilled("m1,m2,m3,m4,m5,m9;3");
        y.tell(0, 0);
        Check.due("up to the river", y.tunnel(0, 4), 3);
        for (int day = 0; day < 6; day++) {
            y.day();
            Check.due("it stays so, day by day", y.tunnel(0, 4), 3);
        }
        Check.due("it came so", y.tunnel(0, 0), 3);
        Check.due("nothing was told by asking", y.tunnel(1, 1), 0);
    }

    private static void tunnelRefusals() {
        Doc.says("Promise 12", "what = 0 how long it is");
        Doc.says("Promise 12", "UNKNOWN (also without a HILL); OUTSIDE.");
        for (int what : new int[] {-1, 0, 4, 5}) {
            for (int tunnel = -1; tunnel <= 3; tunnel++) {
                int which = tunnel;
                Twin.refuses("tunnel(" + tunnel + ", " + what + ") without a hill", Twin::isNew,
                        x -> x.tunnel(which, what), UNKNOWN);
            }
            Twin.refuses("tunnel(-1, " + what + ")", Twin::isBusy, x -> x.tunnel(-1, what), UNKNOWN);
            Twin.refuses("tunnel(3, " + what + ")", Twin::isBusy, x -> x.tunnel(3, what), UNKNOWN);
        }
        Twin.refuses("tunnel(0, -1)", Twin::isBusy, x -> x.tunnel(0, -1), OUTSIDE);
        Twin.refuses("tunnel(2, 5)", Twin::isBusy, x -> x.tunnel(2, 5), OUTSIDE);
        for (int far : Twin.FAR) {
            Twin.refuses("tunnel(" + far + ", 0)", Twin::isBusy, x -> x.tunnel(far, 0), UNKNOWN);
            Twin.refuses("tunnel(" + far + ", 5)", Twin::isBusy, x -> x.tunnel(far, 5), UNKNOWN);
            Twin.refuses("tunnel(0, " + far + ")", Twin::isBusy, x -> x.tunnel(0, far), OUTSIDE);
        }
        DugBySaid x = Check.hilled("m1,m0;9");
        x.tell(2, 0);
        x.deny(2);
        int[] due = {0, 1, 1, 1, 1};
        for (int what = 0; what <= 4; what++) {
            Check.due("tunnel(2, " + what + ")", x.tunnel(2, what), due[what]);
        }
    }
}
