/** Promises 1 to 5: a new object, letter, blank, fault, hill. */
public final class PageTest {
    private static final int UNKNOWN = -101, OUTSIDE = -102, STATE = -103, FULL = -104;

    public static void main(String[] args) {
        newObject();
        letters();
        blanks();
        faults();
        hills();
        hillsAreGone();
        Check.end();
    }

    private static void newObject() {
        DugBySaid x = new DugBySaid();
        for (int what = 0; what <= 8; what++) {
            Check.due("new: count(" + what + ")", x.count(what), 0);
        }
        Check.due("new: fault()", x.fault(), 0);
        Check.due("new: blank()", x.blank(), 0);
        Check.due("new: hill()", x.hill(), STATE);
        Check.due("new: person(0, 0)", x.person(0, 0), UNKNOWN);
        Check.due("new: person(0, 9)", x.person(0, 9), UNKNOWN);
        Check.due("new: as(0, 0)", x.as(0, 0), UNKNOWN);
        Check.due("new: next(0, -1)", x.next(0, -1), UNKNOWN);
        Check.due("new: tell(0, 0)", x.tell(0, 0), UNKNOWN);
        Check.due("new: day()", x.day(), STATE);
        Check.due("new: deny(0)", x.deny(0), UNKNOWN);
        Check.due("new: tunnel(0, 0)", x.tunnel(0, 0), UNKNOWN);
        Check.due("new: tunnel(0, 9)", x.tunnel(0, 9), UNKNOWN);
        Check.due("new: aim(1, 0)", x.aim(1, 0), STATE);
        Check.due("new: aim(0, 0)", x.aim(0, 0), OUTSIDE);
        Check.due("new: heard(0, 0)", x.heard(0, 0), UNKNOWN);
        Check.due("new: forget()", x.forget(), 0);
        Check.due("new: began()", x.began(), STATE);
        Check.due("new: ask()", x.ask(), STATE);
        Check.due("new: markets(1, 0, 0)", x.markets(1, 0, 0), STATE);
        Check.due("new: markets(0, 0, 0)", x.markets(0, 0, 0), OUTSIDE);
        Check.due("new: image()", x.image(), STATE);
        Check.due("new: restore()", x.restore(), STATE);
        Check.due("new: digest()", x.digest(), Check.digestOf(x, ""));
    }

    private static void letters() {
        DugBySaid x = new DugBySaid();
        int[] wrong = {0, -1, 127, 128, 109 + 65536, Integer.MIN_VALUE, Integer.MAX_VALUE};
        for (int code : wrong) {
            Check.due("letter(" + code + ")", x.letter(code), OUTSIDE);
        }
        Check.due("letter(1)", x.letter(1), 1);
        Check.due("letter(126)", x.letter(126), 2);
        for (int many = 3; many <= 22; many++) {
            Check.due("letter " + many, x.letter(many), many);
        }
        Check.due("letter 23", x.letter(1), FULL);
        Check.due("a wrong one, full", x.letter(127), OUTSIDE);
        Check.due("letters when full", x.count(7), 22);
        Check.due("blank() when full", x.blank(), 22);
        Check.due("letter behind blank", x.letter('m'), 1);
    }

    private static void blanks() {
        DugBySaid x = Check.hilled("m1,m0;5");
        Check.write(x, "m1,");
        Check.due("blank()", x.blank(), 3);
        Check.due("blank() again", x.blank(), 0);
        Check.due("blank leaves the hill", x.count(0), 2);
        Check.due("fault() of an empty page", x.fault(), 0);
    }

    private static void faultAt(String text, int want) {
        DugBySaid x = Check.paged(text);
        Check.due("fault() of " + text, x.fault(), want);
        Check.due("fault() leaves the letters of " + text, x.count(7), text.length());
    }

    private static void faults() {
        faultAt("x", 0);
        faultAt("M1", 0);
        faultAt("1m", 0);
        faultAt(";", 0);
        faultAt("m", 1);
        faultAt("mm", 1);
        faultAt("m/", 1);
        faultAt("m:", 1);
        faultAt("m,", 1);
        faultAt("m1", 2);
        faultAt("m11", 2);
        faultAt("m1;", 2);
        faultAt("m1m", 2);
        faultAt("m1,", 3);
        faultAt("m1,,", 3);
        faultAt("m1,;", 3);
        faultAt("m1,5", 3);
        faultAt("m0,s9", 5);
        faultAt("m0,s9;", 6);
        faultAt("m0,s9;0", 6);
        faultAt("m0,s9;:", 6);
        faultAt("m0,s9;m", 6);
        faultAt("m0,s9;1", 7);
        faultAt("m0,s9;9", 7);
        faultAt("m0,s9;91", 7);
        faultAt("m0,s9;9;1", 7);
        faultAt("m0,s9;9,m1", 7);
        faultAt("m0,s9,g1;1", 10);
        faultAt("m1,s1,g1,c1,p1,m1", 17);
        faultAt("m1,s1,g1,c1,p1,m1,", 17);
        faultAt("m1,s1,g1,c1,p1,m1,m1", 17);
        faultAt("m1,s1,g1,c1,p1,m1;", 18);
        faultAt("m1,s1,g1,c1,p1,m1;7", 19);
        faultAt("m1,s1,g1,c1,p1,m1;7777", 19);
        faultAt("x1,s1,g1,c1,p1,m1;7777", 0);
    }

    private static void noHill(String text) {
        DugBySaid x = Check.paged(text);
        Check.due("hill() of " + text, x.hill(), STATE);
        Check.due("letters left of " + text, x.count(7), text.length());
        Check.due("no hill was read of " + text, x.count(8), 0);
    }

    private static void hills() {
        noHill("");
        noHill("m");
        noHill("m1;");
        noHill("m1;5");
        noHill("m1,m0");
        noHill("m1,m0;");
        noHill("m1,m0;0");
        noHill("m1,m0;55");
        noHill("m1,m0,;5");
        noHill("m1,m0 ;5");
        noHill("x1,m0;5");
        noHill("m1,m1,m1,m1,m1,m1,m1;5");
        DugBySaid two = Check.paged("m1,m0;5");
        Check.due("hill() of two", two.hill(), 2);
        Check.due("the page is empty", two.count(7), 0);
        Check.due("people", two.count(0), 2);
        Check.due("river", two.count(1), 5);
        Check.due("read once", two.count(8), 1);
        DugBySaid six = Check.paged("m1,s1,g1,c1,p1,m1;9");
        Check.due("hill() of six", six.hill(), 6);
        Check.due("river of six", six.count(1), 9);
        Check.due("river 1", Check.hilled("m1,s1,g1;1").count(1), 1);
    }

    private static void hillsAreGone() {
        DugBySaid x = Check.hilled("p1,g2,c0;5");
        x.tell(0, 0);
        x.day();
        x.deny(1);
        x.next(0, -1);
        x.heard(0, 1);
        x.image();
        Check.write(x, "m1,m0");
        long before = x.digest();
        Check.due("hill() of a part", x.hill(), STATE);
        Check.due("a refusal changes nothing", x.digest(), before);
        Check.due("the image is still there", x.restore(), 1);
        Check.write(x, ";7");
        Check.due("hill() of another", x.hill(), 2);
        int[] counts = {2, 7, 0, 0, 0, 0, 0, 0, 2};
        for (int what = 0; what <= 8; what++) {
            Check.due("another hill: count(" + what + ")", x.count(what), counts[what]);
        }
        for (int tunnel = 0; tunnel < 3; tunnel++) {
            for (int what = 0; what <= 4; what++) {
                Check.due("another hill: tunnel(" + tunnel + ", " + what + ")", x.tunnel(tunnel, what), 0);
            }
        }
        Check.due("another hill: person(2, 0)", x.person(2, 0), UNKNOWN);
        Check.due("another hill: person(0, 0)", x.person(0, 0), 0);
        Check.due("another hill: person(0, 1)", x.person(0, 1), 1);
        Check.due("another hill: person(0, 2)", x.person(0, 2), 2);
        Check.due("another hill: restore()", x.restore(), STATE);
        Check.due("another hill: began()", x.began(), 3);
    }
}
