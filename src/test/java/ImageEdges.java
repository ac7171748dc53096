import java.math.BigInteger;

/** Edges of what 'Terms' tells of an IMAGE and of refusals, and of promises 19 to 22. */
final class ImageEdges {
    private static final int NONE = Twin.NONE, OUTSIDE = Twin.OUTSIDE, STATE = Twin.STATE, FULL = Twin.FULL;

    private ImageEdges() {
    }

    static void all() {
        latestAlone();
        imageDays();
        imageWithoutHill();
        keepsWhomAllTell();
        keepsDenialsUpToFull();
        keepsDaysUpToFull();
        keepsAskedUpToFull();
        restoreNone();
        restoreBehindAnotherHill();
        countsAre0To8();
        noRiverWithoutHill();
        countsThatGrow();
        digestWraps();
        digestOfFewAndMany();
        digestWithoutHill();
        refusalsInARow();
    }

    private static void latestAlone() {
        Doc.says("Promise 19", "(one; the latest)");
        DugBySaid x = Check.hilled("m1,m0;9");
        x.image();
        x.tell(0, 0);
        x.image();
        x.tell(1, 0);
        Check.due("restore()", x.restore(), 0);
        Check.due("as in the latest: told", x.tunnel(0, 1), 1);
        Check.due("as in the latest: untold", x.tunnel(1, 1), 0);
        x.tell(2, 1);
        Check.due("restore() as often as one likes", x.restore(), 0);
        Check.due("the latest still", x.tunnel(0, 1), 1);
        Check.due("untold again", x.tunnel(2, 1), 0);
    }

    private static void imageDays() {
        Doc.says("Promise 19", "how many DAYS there were");
        Doc.says("Promise 20", "It goes on from the IMAGE: how many DAYS there were.");
        DugBySaid x = Check.hilled("m1,m0;9");
        for (int day = 0; day <= 99; day++) {
            Check.due("image() on day " + day, x.image(), day);
            x.day();
            Check.due("restore() of day " + day, x.restore(), day);
            Check.due("it goes on from day " + day, x.count(2), day);
            x.day();
        }
    }

    private static void imageWithoutHill() {
        Doc.says("Promise 19", "STATE: no HILL.");
        Twin.refuses("image() without a hill", Twin::isNew, DugBySaid::image, STATE);
        Twin.refuses("image() with letters alone", x -> Check.write(x, "m1,m0;9"), DugBySaid::image, STATE);
        DugBySaid x = new DugBySaid();
        x.image();
        Check.write(x, "m1,m0;9");
        x.hill();
        Check.due("none was kept by it", x.restore(), STATE);
        Check.due("image() with one", x.image(), 0);
        Check.due("now it was", x.restore(), 0);
    }

    private static void keepsWhomAllTell() {
        Doc.says("Terms", "An IMAGE keeps whom all tell, TUNNELS, DAYS, how often NEXT ones were changed, ASKED.");
        DugBySaid x = Check.hilled("g1,m0,m0,p1,m9,m0;9");
        x.next(5, NONE);
        int[] nexts = {1, 0, 0, 1, NONE, NONE};
        int[] told = {6, 1, 1, 6, 0, 0};
        x.image();
        for (int person = 0; person < 6; person++) {
            x.next(person, (person + 2) % 6);
        }
        Check.due("changed", x.count(5), 7);
        x.restore();
        Check.due("changed as often as then", x.count(5), 1);
        for (int person = 0; person < 6; person++) {
            Check.due("next of " + person, x.person(person, 1), nexts[person]);
            Check.due("told by " + person, x.person(person, 2), told[person]);
        }
        x.tell(0, 0);
        Check.due("and so they tell", x.day(), 2);
    }

    private static void keepsDenialsUpToFull() {
        for (int tunnel = 0; tunnel < 3; tunnel++) {
            DugBySaid x = Check.hilled("m1,m0;9");
            for (int times = 1; times <= 8; times++) {
                x.deny(tunnel);
            }
            x.image();
            Check.due("denial 9", x.deny(tunnel), 0);
            Check.due("denial 10", x.deny(tunnel), FULL);
            x.restore();
            Check.due("denied 8 times", x.tunnel(tunnel, 3), 8);
            Check.due("denial 9 again", x.deny(tunnel), 0);
            x.image();
            x.restore();
            Check.due("denial 10 again", x.deny(tunnel), FULL);
        }
    }

    private static void keepsDaysUpToFull() {
        DugBySaid x = Check.hilled("m1,m0;9");
        for (int day = 1; day <= 98; day++) {
            x.day();
        }
        x.tell(0, 0);
        Check.due("image() on day 98", x.image(), 98);
        Check.due("day 99", x.day(), 1);
        Check.due("day 100", x.day(), FULL);
        Check.due("restore()", x.restore(), 98);
        Check.due("day 99 again", x.day(), 1);
        Check.due("image() on day 99", x.image(), 99);
        Check.due("restore() of day 99", x.restore(), 99);
        Check.due("day 100 again", x.day(), FULL);
    }

    private static void keepsAskedUpToFull() {
        DugBySaid x = Check.hilled("m1,m2,m9;9");
        for (int much = 1; much <= 8; much++) {
            x.heard(2, 1);
        }
        x.image();
        x.forget();
        x.heard(2, 2);
        Check.due("0 began", x.began(), 1);
        x.restore();
        Check.due("eight are asked", x.count(6), 8);
        Check.due("1 began", x.began(), 2);
        Check.due("the ninth", x.heard(2, 1), FULL);
        x.forget();
        for (int much = 1; much <= 8; much++) {
            x.heard(much % 2, much % 2);
        }
        x.restore();
        Check.due("other people, other days: 1 began still", x.began(), 2);
        x.forget();
        x.image();
        x.heard(0, 0);
        x.restore();
        Check.due("nothing is asked", x.count(6), 0);
        Check.due("all can have begun", x.began(), 7);
    }

    private static void restoreNone() {
        Doc.says("Promise 20", "STATE: none was kept,");
        Twin.refuses("restore() without a hill", Twin::isNew, DugBySaid::restore, STATE);
        Twin.refuses("restore() of none", Twin::isSmall, DugBySaid::restore, STATE);
        Twin.refuses("restore() of none, behind days", ImageEdges::withoutImage, DugBySaid::restore, STATE);
        DugBySaid x = Check.hilled("m1,m0;9");
        x.image();
        Check.due("restore() of one", x.restore(), 0);
    }

    private static void withoutImage(DugBySaid x) {
        Twin.isSmall(x);
        x.tell(0, 0);
        x.day();
        x.next(0, NONE);
        x.heard(1, 1);
    }

    private static void restoreBehindAnotherHill() {
        Doc.says("Promise 20", "or there is another HILL since.");
        Doc.says("Promise 5", "THE PAGE is read as THE HILL (another one is gone, with all that was)");
        Twin.refuses("restore() behind another hill", ImageEdges::isAnother, DugBySaid::restore, STATE);
        DugBySaid x = Check.hilled("m1,m0;9");
        x.day();
        x.image();
        Check.write(x, "m1,m0");
        x.hill();
        Check.due("no other hill was read", x.restore(), 1);
        Check.write(x, ";9");
        x.hill();
        Check.due("now it was, though of the same letters", x.restore(), STATE);
        Check.due("and stays so", x.restore(), STATE);
        Check.due("image() of this one", x.image(), 0);
        Check.due("restore() of this one", x.restore(), 0);
    }

    private static void isAnother(DugBySaid x) {
        Twin.isBusy(x);
        x.blank();
        Check.write(x, "c1,m2,g0;4");
        x.hill();
        x.tell(0, 0);
        x.day();
    }

    private static void countsAre0To8() {
        Doc.says("Promise 21", "0 PEOPLE, 1 the RIVER");
        Doc.says("Promise 21", "8 how often a HILL was read. OUTSIDE.");
        for (int what : new int[] {-2, -1, 9, 10}) {
            refusesCount(what);
        }
        for (int far : Twin.FAR) {
            if (far < 0 || far > 8) {
                refusesCount(far);
            }
        }
        DugBySaid x = new DugBySaid();
        Twin.isBusy(x);
        int[] due = {6, 5, 2, 7, 6, 1, 2, 5, 1};
        for (int what = 0; what <= 8; what++) {
            Check.due("count(" + what + ") of a busy one", x.count(what), due[what]);
            Check.due("count(" + what + ") of a new one", new DugBySaid().count(what), 0);
        }
    }

    private static void refusesCount(int what) {
        Twin.refuses("count(" + what + ") without a hill", Twin::isNew, x -> x.count(what), OUTSIDE);
        Twin.refuses("count(" + what + ")", Twin::isBusy, x -> x.count(what), OUTSIDE);
    }

    private static void noRiverWithoutHill() {
        Doc.says("Promise 21", "(0: no HILL)");
        Check.due("no hill", new DugBySaid().count(1), 0);
        Check.due("no hill, but letters", Check.paged("m1,m0;9").count(1), 0);
        Check.due("river 1", Check.hilled("m1,m0;1").count(1), 1);
        Check.due("river 9", Check.hilled("m1,m0;9").count(1), 9);
    }

    private static void countsThatGrow() {
        Doc.says("Promise 21", "3 how long all TUNNELS are together, 4 how often any HEARD of any");
        DugBySaid x = Check.hilled("p9,p9,p9,p9,p9,p9;1");
        for (int at = 0; at < 18; at++) {
            x.tell(at / 6, at % 6);
            Check.due("long together", x.count(3), 2 * (at + 1));
            Check.due("how often any heard", x.count(4), at + 1);
        }
        DugBySaid y = Check.hilled("m9,m9,s9;1");
        for (int tunnel = 0; tunnel < 3; tunnel++) {
            y.tell(tunnel, 0);
            y.tell(tunnel, 1);
        }
        Check.due("each up to the river", y.count(3), 3);
        y.deny(0);
        y.deny(0);
        y.deny(0);
        Check.due("one is at 0 and takes nothing from others", y.count(3), 2);
        for (int times = 2; times <= 40; times++) {
            Check.write(y, "m1,m0;1");
            y.hill();
            Check.due("a hill was read", y.count(8), times);
        }
    }

    private static void digestWraps() {
        Doc.says("Promise 22", "(as longs, wrapping)");
        DugBySaid x = new DugBySaid();
        Twin.isBusy(x);
        BigInteger h = BigInteger.valueOf(1069);
        for (int person = 0; person < 6; person++) {
            for (int what = 0; what <= 5; what++) {
                h = mixed(h, x.person(person, what));
            }
        }
        for (int tunnel = 0; tunnel < 3; tunnel++) {
            for (int what = 0; what <= 4; what++) {
                h = mixed(h, x.tunnel(tunnel, what));
            }
        }
        int[] rest = {x.aim(3, 0), x.aim(3, 1), x.aim(7, 0), x.aim(7, 1), x.began(), x.ask(), 'm', '1', ',', 'm', '0'};
        for (int number : rest) {
            h = mixed(h, number);
        }
        for (int what = 0; what <= 8; what++) {
            h = mixed(h, x.count(what));
        }
        Check.holds("it is long enough to wrap", h.bitLength() > 64);
        Check.due("digest(), wrapped", x.digest(), h.longValue());
    }

    private static BigInteger mixed(BigInteger h, int number) {
        return h.multiply(BigInteger.valueOf(31)).add(BigInteger.valueOf(number));
    }

    private static void digestOfFewAndMany() {
        Doc.says("Promise 22", "of each one what person() tells for 0 to 5; with a HILL of each TUNNEL what tunnel() tells for 0 to 4");
        String[] hills = {"m1,m0;1", "s9,s9;9", "m1,p2,c0;3", "m1,m2,m3,m0;4", "c9,p9,c9,m9;9", "g1,c2,p3,s4,m0;5", "p1,p2,p3,p4,p5,p0;9"};
        for (String hill : hills) {
            DugBySaid x = Check.hilled(hill);
            Check.due("digest() of " + hill, x.digest(), Check.digestOf(x, ""));
            Check.write(x, "m1,m1,m1,m1,m1,m1;7777");
            Check.due("with a full page", x.digest(), Check.digestOf(x, "m1,m1,m1,m1,m1,m1;7777"));
            x.heard(0, 9);
            Check.due("nobody can have begun", x.ask(), NONE);
            Check.due("then NONE goes in", x.digest(), Check.digestOf(x, "m1,m1,m1,m1,m1,m1;7777"));
        }
    }

    private static void digestWithoutHill() {
        Doc.says("Promise 22", "letters of THE PAGE; what count() tells for 0 to 8.");
        long h = 1069;
        for (int number = 0; number < 9; number++) {
            h = 31 * h;
        }
        Check.due("digest() of a new one", new DugBySaid().digest(), h);
        long one = ((1069L * 31 + 126) * 31 * 31 * 31 * 31 * 31 * 31 * 31 * 31 + 1) * 31;
        DugBySaid x = new DugBySaid();
        x.letter(126);
        Check.due("digest() of one letter", x.digest(), one);
        x.blank();
        Check.due("digest() of none again", x.digest(), h);
    }

    /** One refusal behind another, of all calls, leaves everything as it is. */
    private static void refusalsInARow() {
        Doc.says("Terms", "Refusals, of several the first as told by each call");
        Doc.says("Terms", "they change nothing.");
        Twin.refuses("many refusals", Twin::isBusy, ImageEdges::manyRefusals, STATE);
        Twin.refuses("many refusals, new", Twin::isNew, ImageEdges::manyRefusals, STATE);
    }

    private static int manyRefusals(DugBySaid x) {
        x.letter(0);
        x.letter(127);
        x.person(6, 6);
        x.as(6, 5);
        x.next(6, 6);
        x.next(0, 6);
        x.tell(3, 6);
        x.tell(0, 6);
        x.tell(0, -1);
        x.deny(3);
        x.tunnel(3, 5);
        x.aim(0, 2);
        x.heard(6, 10);
        x.heard(0, 10);
        x.markets(0, -1, 3);
        x.count(9);
        return x.hill();
    }
}
