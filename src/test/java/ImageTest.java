/** Promises 19 to 22: image, restore, count, digest. */
public final class ImageTest {
    private static final int OUTSIDE = -102, STATE = -103;

    public static void main(String[] args) {
        restoresAll();
        restoresAsked();
        latestImage();
        notInTheImage();
        restoreRefusals();
        counts();
        countRefusals();
        digests();
        Check.end();
    }

    private static DugBySaid busy() {
        DugBySaid x = Check.hilled("g1,m3,c0,p4,s2,m0;5");
        x.tell(0, 0);
        x.tell(1, 5);
        x.day();
        x.day();
        x.tell(1, 4);
        x.deny(0);
        x.next(0, 3);
        x.heard(3, 2);
        x.heard(2, 1);
        return x;
    }

    private static void restoresAll() {
        DugBySaid x = busy();
        long before = x.digest();
        Check.due("image()", x.image(), 2);
        Check.due("an image changes nothing", x.digest(), before);
        x.next(0, -1);
        x.next(5, 2);
        x.tell(2, 2);
        x.deny(0);
        x.deny(2);
        x.day();
        x.day();
        x.forget();
        x.heard(0, 0);
        x.heard(1, 0);
        x.heard(2, 0);
        Check.holds("it went on", x.digest() != before);
        Check.due("restore()", x.restore(), 2);
        Check.due("all is as it was", x.digest(), before);
        x.day();
        x.tell(2, 1);
        Check.due("restore() again", x.restore(), 2);
        Check.due("all is as it was again", x.digest(), before);
    }

    private static void restoresAsked() {
        DugBySaid x = Check.hilled("m1,m2,m3,m9;9");
        x.heard(3, 2);
        x.heard(2, 1);
        x.image();
        x.forget();
        x.heard(0, 0);
        x.heard(1, 1);
        Check.due("0 began", x.began(), 1);
        x.restore();
        Check.due("1 began, as was asked then", x.began(), 2);
        x.forget();
        x.heard(3, 1);
        x.heard(2, 0);
        x.restore();
        Check.due("1 again, though other days were told", x.began(), 2);
    }

    private static void latestImage() {
        DugBySaid x = Check.hilled("m1,m0;9");
        x.image();
        x.day();
        x.tell(0, 0);
        Check.due("the latest image", x.image(), 1);
        x.day();
        Check.due("restore the latest", x.restore(), 1);
        Check.due("who heard then", x.tunnel(0, 1), 1);
    }

    private static void notInTheImage() {
        DugBySaid x = Check.hilled("m1,m0;9");
        Check.write(x, "m1,");
        x.image();
        x.letter('m');
        x.restore();
        Check.due("the page is not in it", x.count(7), 4);
        Check.due("nor how often a hill was read", x.count(8), 1);
    }

    private static void restoreRefusals() {
        DugBySaid x = Check.hilled("m1,m0;9");
        Check.due("none was kept", x.restore(), STATE);
        x.image();
        Check.write(x, "m1,m0;9");
        x.hill();
        Check.due("another hill, of the same text", x.restore(), STATE);
        Check.due("image() of this one", x.image(), 0);
        Check.due("restore() of this one", x.restore(), 0);
        Check.due("image() without a hill", new DugBySaid().image(), STATE);
        Check.due("restore() without a hill", new DugBySaid().restore(), STATE);
    }

    private static void counts() {
        DugBySaid x = busy();
        Check.write(x, "m1,");
        // 0 told 1 and 2, these 3; 5 told 0, he 1 and 2 (all of tunnel 1), and 4 was told.
        int[] due = {6, 5, 2, 9, 9, 1, 2, 3, 1};
        for (int what = 0; what <= 8; what++) {
            Check.due("count(" + what + ")", x.count(what), due[what]);
        }
        Check.due("length of 0 in it", x.tunnel(0, 0), 5);
        Check.due("length of 1 in it", x.tunnel(1, 0), 4);
        x.blank();
        Check.write(x, "m1,m0;3");
        x.hill();
        Check.due("read twice", x.count(8), 2);
    }

    private static void countRefusals() {
        DugBySaid x = busy();
        for (int what : new int[] {-1, 9, 10, Integer.MIN_VALUE, Integer.MAX_VALUE}) {
            Check.due("count(" + what + ")", x.count(what), OUTSIDE);
            Check.due("count(" + what + ") without a hill", new DugBySaid().count(what), OUTSIDE);
        }
    }

    private static void digests() {
        DugBySaid x = busy();
        Check.due("digest()", x.digest(), Check.digestOf(x, ""));
        Check.due("digest() changes nothing", x.digest(), Check.digestOf(x, ""));
        Check.write(x, "m1,g");
        Check.due("digest() with letters", x.digest(), Check.digestOf(x, "m1,g"));
        digestsWithoutHill();
        // Here the four numbers of AIM are all others, so none can stand for another.
        DugBySaid aimed = Check.hilled("c9,p9,c9,m9;9");
        Check.due("aim(3, 0)", aimed.aim(3, 0), 2);
        Check.due("aim(3, 1)", aimed.aim(3, 1), 9);
        Check.due("aim(7, 0)", aimed.aim(7, 0), 4);
        Check.due("aim(7, 1)", aimed.aim(7, 1), 15);
        Check.due("digest() of aims", aimed.digest(), Check.digestOf(aimed, ""));
    }

    /** Without a HILL only letters of THE PAGE and the nine counts go in, no refusal. */
    private static void digestsWithoutHill() {
        Check.due("digest() of a new object", new DugBySaid().digest(), 28263956089757299L);
        DugBySaid none = Check.paged("m1");
        long h = 1069;
        for (int number : new int[] {'m', '1', 0, 0, 0, 0, 0, 0, 0, 2, 0}) {
            h = 31 * h + number;
        }
        Check.due("digest() without a hill", none.digest(), h);
        Check.due("hill() of no hill", none.hill(), STATE);
        Check.due("digest() behind a refused hill", none.digest(), h);
        none.blank();
        Check.due("digest() behind blank()", none.digest(), 28263956089757299L);
    }
}
