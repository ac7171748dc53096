/** Promises 6 to 8: person, as, next. */
public final class PeopleTest {
    private static final int NONE = -1, UNKNOWN = -101, OUTSIDE = -102;
    private static final int[] EDGES = {-2, -101, 7, 9, 32, 33, Integer.MIN_VALUE, Integer.MAX_VALUE};

    public static void main(String[] args) {
        kindsAndNexts();
        whomTheyTell();
        heardTunnels();
        endsAndLasts();
        personRefusals();
        casts();
        nexts();
        Check.end();
    }

    private static void kindsAndNexts() {
        DugBySaid x = Check.hilled("m1,s2,g9,c3,p0,m6;5");
        int[] kinds = {0, 1, 2, 3, 4, 0};
        int[] nexts = {1, 2, NONE, NONE, 0, NONE};
        for (int person = 0; person < 6; person++) {
            Check.due("kind of " + person, x.person(person, 0), kinds[person]);
            Check.due("next of " + person, x.person(person, 1), nexts[person]);
        }
    }

    private static void tells(String hill, int person, int want) {
        Check.due("whom " + person + " tells in " + hill, Check.hilled(hill).person(person, 2), want);
    }

    private static void whomTheyTell() {
        tells("m1,m0;5", 0, 2);
        tells("m2,m0;5", 0, 0);
        tells("m0,m0;5", 0, 0);
        tells("c1,m0,m0;5", 0, 2);
        tells("s1,m0;5", 0, 0);
        tells("g1,m0,m0;5", 0, 6);
        tells("p1,m0,m0;5", 0, 6);
        tells("g1,m0;5", 0, 2);
        tells("g9,m0,m0;5", 0, 0);
        tells("g0,m0,m0;5", 0, 0);
        tells("m0,g0,m0;5", 1, 1);
        tells("m0,m0,g0;5", 2, 3);
        tells("m0,m0,g1;5", 2, 2);
        tells("m0,p2,m0;5", 1, 4);
        tells("m0,m0,m0,m0,m0,p3;5", 5, 24);
        tells("m0,m0,m0,m0,m0,p4;5", 5, 16);
    }

    private static void heardTunnels() {
        DugBySaid x = Check.hilled("m1,m0,m9;5");
        Check.due("nothing heard", x.person(1, 3), 0);
        x.tell(1, 1);
        Check.due("heard of 1", x.person(1, 3), 2);
        x.tell(2, 0);
        x.day();
        Check.due("1 heard of 1 and 2", x.person(1, 3), 6);
        Check.due("0 heard of 1 and 2", x.person(0, 3), 6);
        Check.due("2 heard nothing", x.person(2, 3), 0);
        x.tell(0, 1);
        Check.due("1 heard of all", x.person(1, 3), 7);
    }

    private static void ends(String hill, int person, int length, int days) {
        DugBySaid x = Check.hilled(hill);
        Check.due("ENDS of " + person + " in " + hill, x.person(person, 4), length);
        Check.due("LASTS of " + person + " in " + hill, x.person(person, 5), days);
        Check.due("nobody has heard in " + hill, x.count(4), 0);
    }

    private static void endsAndLasts() {
        ends("m1,m2,m3,m4,m5,m9;9", 0, 6, 5);
        ends("m1,m2,m3,m4,m5,m9;9", 3, 3, 2);
        ends("m1,m2,m3,m4,m5,m9;9", 5, 1, 0);
        ends("m1,m2,m3,m4,m5,m9;3", 0, 3, 5);
        ends("m1,m2,m3,m4,m5,p9;3", 0, 7, 5);
        ends("p1,m2,m9;1", 0, 4, 1);
        ends("p1,m2,m9;1", 1, 1, 1);
        ends("c1,c0;9", 0, 4, 1);
        ends("c1,c0;3", 0, 3, 1);
        ends("m1,s0;9", 0, 0, 1);
        ends("m1,s0;9", 1, 0, 0);
        ends("c1,s2,c9;9", 0, 1, 1);
        ends("m1,m2,m0;9", 1, 3, 2);
        ends("g1,m2,m3,m9;9", 0, 4, 2);
        ends("p2,s9,m3,s9;9", 0, 2, 1);
        ends("p1,p2,p3,p4,p5,p0;1", 0, 12, 3);
    }

    private static void personRefusals() {
        DugBySaid x = Check.hilled("m1,m0;5");
        for (int edge : EDGES) {
            Check.due("person(" + edge + ", 0)", x.person(edge, 0), UNKNOWN);
            Check.due("person(" + edge + ", 6)", x.person(edge, 6), UNKNOWN);
            Check.due("person(0, " + edge + ")", x.person(0, edge), OUTSIDE);
        }
        Check.due("person(-1, 0)", x.person(-1, 0), UNKNOWN);
        Check.due("person(2, 0)", x.person(2, 0), UNKNOWN);
        Check.due("person(1, 6)", x.person(1, 6), OUTSIDE);
        Check.due("person(1, -1)", x.person(1, -1), OUTSIDE);
    }

    private static void casts() {
        DugBySaid x = Check.hilled("m1,s2,g9,c3,p0,m6;5");
        boolean[][] such = {
            {true, false, false, false, false},
            {true, true, false, false, false},
            {true, false, true, false, false},
            {true, false, false, true, false},
            {true, false, true, false, true},
        };
        for (int person = 0; person < 5; person++) {
            for (int kind = 0; kind < 5; kind++) {
                Check.due("as(" + person + ", " + kind + ")", x.as(person, kind), such[person][kind] ? person : NONE);
            }
        }
        for (int edge : EDGES) {
            Check.due("as(" + edge + ", 0)", x.as(edge, 0), UNKNOWN);
            Check.due("as(6, " + edge + ")", x.as(6, edge), UNKNOWN);
            Check.due("as(4, " + edge + ")", x.as(4, edge), OUTSIDE);
        }
        Check.due("as(-1, 0)", x.as(-1, 0), UNKNOWN);
        Check.due("as(0, 5)", x.as(0, 5), OUTSIDE);
        Check.due("as(0, -1)", x.as(0, -1), OUTSIDE);
    }

    private static void nexts() {
        DugBySaid x = Check.hilled("g1,m9,s0,m0;9");
        Check.due("next(0, 2)", x.next(0, 2), 1);
        Check.due("next of 0", x.person(0, 1), 2);
        Check.due("0 tells", x.person(0, 2), 12);
        Check.due("next(0, 0)", x.next(0, 0), 2);
        Check.due("nobody is next", x.person(0, 1), NONE);
        Check.due("0 tells nobody", x.person(0, 2), 0);
        Check.due("next(0, 3)", x.next(0, 3), NONE);
        Check.due("0 tells one alone", x.person(0, 2), 8);
        Check.due("next(0, -1)", x.next(0, NONE), 3);
        Check.due("next(2, 1)", x.next(2, 1), 0);
        Check.due("next of a sceptic", x.person(2, 1), 1);
        Check.due("a sceptic tells nobody", x.person(2, 2), 0);
        Check.due("how often changed", x.count(5), 5);
        Check.due("next(1, 3)", x.next(1, 3), NONE);
        Check.due("the same again", x.next(1, 3), 3);
        Check.due("the same counts too", x.count(5), 7);
        Check.due("ENDS goes by it", x.person(1, 4), 3);
        long before = x.digest();
        for (int edge : EDGES) {
            Check.due("next(" + edge + ", 0)", x.next(edge, 0), UNKNOWN);
            Check.due("next(0, " + edge + ")", x.next(0, edge), UNKNOWN);
        }
        Check.due("next(-1, 0)", x.next(-1, 0), UNKNOWN);
        Check.due("next(4, 0)", x.next(4, 0), UNKNOWN);
        Check.due("next(0, 4)", x.next(0, 4), UNKNOWN);
        Check.due("refusals change nothing", x.digest(), before);
    }
}
