/** Edges of what 'Terms' tells of people, and of promises 6 to 8. */
final class PeopleEdges {
    private static final int NONE = Twin.NONE, UNKNOWN = Twin.UNKNOWN, OUTSIDE = Twin.OUTSIDE;

    private PeopleEdges() {
    }

    static void all() {
        allAreMen();
        priestsAreGossips();
        kindNumbers();
        besideIfThereIsOne();
        besideIsNotHimself();
        nobodyHasNobodyBeside();
        scepticsTellNobody();
        endsAreToldHimAlone();
        lastsFromNought();
        nextOfNobody();
        personRefusals();
        noneSuchCast();
        asRefusals();
        nobodyNext();
        whoWas();
        nextRefusals();
    }

    private static void allAreMen() {
        Doc.says("Terms", "All are MEN");
        DugBySaid x = Check.hilled("m9,s9,g9,c9,p9;5");
        for (int person = 0; person < 5; person++) {
            Check.due("as(" + person + ", 0)", x.as(person, 0), person);
        }
        Check.due("a man is a man alone", x.as(0, 1) + x.as(0, 2) + x.as(0, 3) + x.as(0, 4), 4 * NONE);
    }

    private static void priestsAreGossips() {
        Doc.says("Terms", "a PRIEST is a GOSSIP, too.");
        DugBySaid x = Check.hilled("p1,g0,c0,m0;5");
        Check.due("a priest as a gossip", x.as(0, 2), 0);
        Check.due("a gossip as a priest", x.as(1, 4), NONE);
        Check.due("a child as a priest", x.as(2, 4), NONE);
        Check.due("a priest as a child", x.as(0, 3), NONE);
        Check.due("a priest as a sceptic", x.as(0, 1), NONE);
        Check.due("a priest tells two", x.person(0, 2), 6);
    }

    private static void kindNumbers() {
        Doc.says("Terms", "0 MAN \"m\", 1 SCEPTIC \"s\", 2 GOSSIP \"g\", 3 CHILD \"c\", 4 PRIEST \"p\"");
        String kinds = "msgcp";
        for (int kind = 0; kind < 5; kind++) {
            DugBySaid x = Check.hilled("m1,m0,m0,m0,m0," + kinds.charAt(kind) + "0;5");
            Check.due("the kind " + kinds.charAt(kind), x.person(5, 0), kind);
            Check.due("he is that", x.as(5, kind), 5);
        }
    }

    private static void tells(String hill, int person, int want) {
        Check.due("whom " + person + " tells in " + hill, Check.hilled(hill).person(person, 2), want);
    }

    private static void besideIfThereIsOne() {
        Doc.says("Terms", "also the one whose number is 1 more than that one's, if there is one");
        for (String kind : new String[] {"g", "p"}) {
            tells(kind + "1,m0;5", 0, 2);
            tells(kind + "1,m0,m0;5", 0, 6);
            tells(kind + "2,m0,m0;5", 0, 4);
            tells(kind + "4,m0,m0,m0,m0,m0;5", 0, 48);
            tells(kind + "5,m0,m0,m0,m0,m0;5", 0, 32);
            tells(kind + "4,m0,m0,m0,m0;5", 0, 16);
        }
        tells("m1,m0,m0;5", 0, 2);
        tells("c1,m0,m0;5", 0, 2);
    }

    private static void besideIsNotHimself() {
        Doc.says("Terms", "(but himself)");
        for (String kind : new String[] {"g", "p"}) {
            tells("m0,m0,m0," + kind + "1;5", 3, 6);
            tells("m0,m0,m0," + kind + "2;5", 3, 4);
            tells("m0," + kind + "0,m0;5", 1, 1);
            tells("m0,m0," + kind + "0;5", 2, 3);
            tells("m0,m0,m0,m0,m0," + kind + "4;5", 5, 16);
            tells("m0,m0,m0,m0,m0," + kind + "3;5", 5, 24);
        }
    }

    /** Nobody is NONE, one below 0; so one more must not be taken for 0, nor for him behind his own number. */
    private static void nobodyHasNobodyBeside() {
        tells("m0,g9,m0;5", 1, 0);
        tells("m0,g3,m0;5", 1, 0);
        tells("m0,g1,m0;5", 1, 0);
        tells("m0,p1,m0;5", 1, 0);
        DugBySaid x = Check.hilled("m0,g2,m0;5");
        x.next(1, NONE);
        Check.due("he tells nobody", x.person(1, 2), 0);
        x.next(1, 1);
        Check.due("himself: nobody", x.person(1, 2), 0);
    }

    private static void scepticsTellNobody() {
        Doc.says("Terms", "a SCEPTIC nobody");
        DugBySaid x = Check.hilled("s1,m0,m0;5");
        Check.due("his next", x.person(0, 1), 1);
        Check.due("whom he tells", x.person(0, 2), 0);
        x.next(0, 2);
        Check.due("his new next", x.person(0, 1), 2);
        Check.due("whom he tells still", x.person(0, 2), 0);
        x.tell(0, 0);
        Check.due("nobody hears it from him", x.day(), 0);
    }

    private static void ends(String hill, int person, int want) {
        Check.due("ENDS of " + person + " in " + hill, Check.hilled(hill).person(person, 4), want);
    }

    private static void endsAreToldHimAlone() {
        Doc.says("Terms", "how long a new TUNNEL is in the end, if it is told him alone");
        ends("s1,m0;9", 0, 0);
        ends("m9,m0;1", 0, 1);
        ends("m9,m0;1", 1, 1);
        ends("m9,m0;2", 1, 2);
        ends("m9,s0;9", 1, 0);
        ends("p1,p2,p3,p4,p5,p0;1", 5, 12);
        ends("c1,c2,c3,c4,c5,c0;9", 5, 9);
        DugBySaid x = Check.hilled("m9,m0;9");
        for (int tunnel = 0; tunnel < 3; tunnel++) {
            x.tell(tunnel, 0);
            x.deny(tunnel);
        }
        Check.due("ENDS is of a new one, not of those told", x.person(1, 4), 2);
    }

    private static void lastsFromNought() {
        Doc.says("Terms", "the last DAY on which one does; 0: nobody but he");
        String[] chains = {"m9,m9", "m1,m9", "m1,m2,m9", "m1,m2,m3,m9", "m1,m2,m3,m4,m9", "m1,m2,m3,m4,m5,m9"};
        for (int days = 0; days <= 5; days++) {
            Check.due("LASTS in " + chains[days], Check.hilled(chains[days] + ";9").person(0, 5), days);
        }
        Check.due("a ring", Check.hilled("m1,m2,m3,m4,m5,m0;9").person(3, 5), 5);
        Check.due("he who is told again hears nothing new", Check.hilled("m1,m0;9").person(0, 5), 1);
        Check.due("the nearer way", Check.hilled("g1,m2,m9;9").person(0, 5), 1);
        Check.due("a sceptic hears it last", Check.hilled("m1,s2,m9;9").person(0, 5), 1);
    }

    private static void nextOfNobody() {
        Doc.says("Promise 6", "1 the NEXT one (NONE: nobody)");
        Check.due("next 0", Check.hilled("m1,m0;9").person(1, 1), 0);
        Check.due("next nobody", Check.hilled("m1,m9;9").person(1, 1), NONE);
    }

    private static void personRefusals() {
        Doc.says("Promise 6", "what = 0 KIND");
        Doc.says("Promise 6", "4 ENDS, 5 LASTS. UNKNOWN; OUTSIDE.");
        for (int what : new int[] {-1, 0, 5, 6}) {
            Twin.refuses("person(0, " + what + ") without a hill", Twin::isNew, x -> x.person(0, what), UNKNOWN);
            Twin.refuses("person(-1, " + what + ")", Twin::isBusy, x -> x.person(-1, what), UNKNOWN);
            Twin.refuses("person(6, " + what + ")", Twin::isBusy, x -> x.person(6, what), UNKNOWN);
            Twin.refuses("person(2, " + what + ") of two", Twin::isSmall, x -> x.person(2, what), UNKNOWN);
        }
        DugBySaid last = Check.hilled("m1,s0,g0,c0,p0,m0;9");
        int[] due = {0, 0, 1, 0, 1, 2};
        for (int what = 0; what <= 5; what++) {
            Check.due("person(5, " + what + ")", last.person(5, what), due[what]);
        }
        Twin.refuses("person(0, -1)", Twin::isBusy, x -> x.person(0, -1), OUTSIDE);
        Twin.refuses("person(5, 6)", Twin::isBusy, x -> x.person(5, 6), OUTSIDE);
        for (int far : Twin.FAR) {
            Twin.refuses("person(" + far + ", 0)", Twin::isBusy, x -> x.person(far, 0), UNKNOWN);
            Twin.refuses("person(" + far + ", 6)", Twin::isBusy, x -> x.person(far, 6), UNKNOWN);
            Twin.refuses("person(0, " + far + ")", Twin::isBusy, x -> x.person(0, far), OUTSIDE);
        }
    }

    private static void noneSuchCast() {
        Doc.says("Promise 7", "his number; NONE: he is none such (the cast fails)");
        DugBySaid x = Check.hilled("m1,s0,g0,c0,p0,g0;9");
        Check.due("his number is 0", x.as(0, 0), 0);
        Check.due("his number is 5", x.as(5, 2), 5);
        Check.due("none such", x.as(0, 2), NONE);
        Check.due("none such, the last", x.as(5, 4), NONE);
        x.next(0, 2);
        Check.due("a cast does not go by whom he tells", x.as(0, 2), NONE);
    }

    private static void asRefusals() {
        Doc.says("Promise 7", "UNKNOWN; OUTSIDE.");
        for (int kind : new int[] {-1, 0, 4, 5}) {
            Twin.refuses("as(0, " + kind + ") without a hill", Twin::isNew, x -> x.as(0, kind), UNKNOWN);
            Twin.refuses("as(-1, " + kind + ")", Twin::isBusy, x -> x.as(-1, kind), UNKNOWN);
            Twin.refuses("as(6, " + kind + ")", Twin::isBusy, x -> x.as(6, kind), UNKNOWN);
            Twin.refuses("as(2, " + kind + ") of two", Twin::isSmall, x -> x.as(2, kind), UNKNOWN);
        }
        Twin.refuses("as(0, -1)", Twin::isBusy, x -> x.as(0, -1), OUTSIDE);
        Twin.refuses("as(5, 5)", Twin::isBusy, x -> x.as(5, 5), OUTSIDE);
        Twin.refuses("as(0, 4), which fails", Twin::isBusy, x -> x.as(0, 4), NONE);
        for (int far : Twin.FAR) {
            Twin.refuses("as(" + far + ", 0)", Twin::isBusy, x -> x.as(far, 0), UNKNOWN);
            Twin.refuses("as(" + far + ", 5)", Twin::isBusy, x -> x.as(far, 5), UNKNOWN);
            Twin.refuses("as(0, " + far + ")", Twin::isBusy, x -> x.as(0, far), OUTSIDE);
        }
    }

    private static void nobodyNext() {
        Doc.says("Promise 8", "(NONE: nobody; he himself: nobody)");
        for (int person = 0; person < 3; person++) {
            DugBySaid x = Check.hilled("m1,g2,p0;9");
            x.next(person, NONE);
            Check.due("nobody is next of " + person, x.person(person, 1), NONE);
            Check.due("nobody is told by " + person, x.person(person, 2), 0);
            x.next(person, person);
            Check.due("he himself: nobody", x.person(person, 1), NONE);
            Check.due("he himself is not told", x.person(person, 2), 0);
            int other = (person + 1) % 3;
            x.next(person, other);
            Check.due("another again", x.person(person, 1), other);
        }
    }

    private static void whoWas() {
        Doc.says("Promise 8", "who was (NONE)");
        DugBySaid x = Check.hilled("m1,m9,m2;9");
        Check.due("1 was", x.next(0, 2), 1);
        Check.due("2 was", x.next(0, 0), 2);
        Check.due("nobody was, by himself", x.next(0, NONE), NONE);
        Check.due("nobody was, by NONE", x.next(0, 1), NONE);
        Check.due("nobody was, by a number of none such", x.next(1, 0), NONE);
        Check.due("nobody was, by his own number", x.next(2, 0), NONE);
        Check.due("0 was", x.next(2, 1), 0);
        Check.due("how often", x.count(5), 7);
        Check.due("the same again", x.next(2, 1), 1);
        Check.due("is a change, too", x.count(5), 8);
    }

    private static void nextRefusals() {
        Doc.says("Promise 8", "UNKNOWN: person, next.");
        Twin.refuses("next(0, 0) without a hill", Twin::isNew, x -> x.next(0, 0), UNKNOWN);
        Twin.refuses("next(0, -1) without a hill", Twin::isNew, x -> x.next(0, NONE), UNKNOWN);
        Twin.refuses("next(-1, -1)", Twin::isBusy, x -> x.next(NONE, NONE), UNKNOWN);
        Twin.refuses("next(6, 6)", Twin::isBusy, x -> x.next(6, 6), UNKNOWN);
        Twin.refuses("next(2, 0) of two", Twin::isSmall, x -> x.next(2, 0), UNKNOWN);
        Twin.refuses("next(0, 2) of two", Twin::isSmall, x -> x.next(0, 2), UNKNOWN);
        Twin.refuses("next(0, 9), though a hill may say it", Twin::isBusy, x -> x.next(0, 9), UNKNOWN);
        for (int far : new int[] {-1, 6, 7}) {
            Twin.refuses("next(" + far + ", 0)", Twin::isBusy, x -> x.next(far, 0), UNKNOWN);
        }
        for (int far : Twin.FAR) {
            Twin.refuses("next(" + far + ", 0)", Twin::isBusy, x -> x.next(far, 0), UNKNOWN);
            Twin.refuses("next(0, " + far + ")", Twin::isBusy, x -> x.next(0, far), UNKNOWN);
        }
        DugBySaid x = Check.hilled("m1,m0,m0,m0,m0,m0;9");
        Check.due("the last one, known", x.next(5, 4), 0);
        Check.due("next is the last one, known", x.next(0, 5), 1);
    }
}
