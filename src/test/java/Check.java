/** What the tests share: counting wrong answers, and objects with a HILL. */
final class Check {
    private static int checked = 0;
    private static int wrong = 0;

    private Check() {
    }

    static void due(String call, long got, long want) {
        checked++;
        if (got != want) {
            wrong++;
            System.out.println(call + " answered " + got + ", due is " + want);
        }
    }

    static void holds(String what, boolean so) {
        due(what, so ? 1 : 0, 1);
    }

    /** Ends the program with code 1, if any answer was wrong or nothing was checked. */
    static void end() {
        System.out.println(checked + " answers, " + wrong + " not as due");
        if (wrong != 0 || checked == 0) {
            System.exit(1);
        }
    }

    static DugBySaid paged(String text) {
        DugBySaid x = new DugBySaid();
        write(x, text);
        return x;
    }

    static DugBySaid hilled(String text) {
        DugBySaid x = paged(text);
        x.hill();
        return x;
    }

    static void write(DugBySaid x, String text) {
        for (int at = 0; at < text.length(); at++) {
            x.letter(text.charAt(at));
        }
    }

    /** The digest as promise 22 builds it, of what the other calls answer; letters is what THE PAGE holds. */
    static long digestOf(DugBySaid x, String letters) {
        long h = x.count(0) > 0 ? withHill(x, 1069) : 1069;
        for (int at = 0; at < letters.length(); at++) {
            h = 31 * h + letters.charAt(at);
        }
        for (int what = 0; what <= 8; what++) {
            h = 31 * h + x.count(what);
        }
        return h;
    }

    /** The numbers of the digest that there are only with a HILL. */
    private static long withHill(DugBySaid x, long before) {
        long h = before;
        for (int person = 0; person < x.count(0); person++) {
            for (int what = 0; what <= 5; what++) {
                h = 31 * h + x.person(person, what);
            }
        }
        for (int tunnel = 0; tunnel < 3; tunnel++) {
            for (int what = 0; what <= 4; what++) {
                h = 31 * h + x.tunnel(tunnel, what);
            }
        }
        for (int length : new int[] {3, 7}) {
            h = 31 * h + x.aim(length, 0);
            h = 31 * h + x.aim(length, 1);
        }
        h = 31 * h + x.began();
        return 31 * h + x.ask();
    }
}
