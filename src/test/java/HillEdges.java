/** Edges of 'What it is' and of promises 1 to 5. */
final class HillEdges {
    private static final int NONE = Twin.NONE, UNKNOWN = Twin.UNKNOWN, OUTSIDE = Twin.OUTSIDE;
    private static final int STATE = Twin.STATE, FULL = Twin.FULL;
    private static final String DIGITS = "0123456789";

    private HillEdges() {
    }

    static void all() {
        peopleAreTwoToSix();
        peopleAreNumberedFromNought();
        kindsAreFiveLetters();
        nextIsOneDigit();
        riverIsOneToNine();
        nothingComesBehind();
        ownNumberIsNobody();
        noneSuchIsNobody();
        calls512();
        atFirstThereIsNone();
        codesAre1To126();
        pageHolds22();
        blankTellsHowMany();
        faultIsFromNought();
        faultOfNone();
        anotherHillIsGone();
        noHillIsState();
    }

    private static String peopleOf(int people) {
        return "m1" + ",m1".repeat(people - 1);
    }

    /** Behind these letters only the allowed ones go on. */
    private static void goesOnWith(String ahead, String allowed) {
        for (int code = 1; code <= 126; code++) {
            DugBySaid x = Check.paged(ahead);
            x.letter(code);
            int want = allowed.indexOf(code) >= 0 ? ahead.length() + 1 : ahead.length();
            Check.due("fault() of " + ahead + " and the letter " + code, x.fault(), want);
        }
    }

    private static void peopleAreTwoToSix() {
        Doc.says("What it is", "two to six PEOPLE");
        Doc.says("Promise 5", "how many PEOPLE; THE PAGE is empty then");
        goesOnWith(peopleOf(1), ",");
        for (int people = 2; people <= 5; people++) {
            goesOnWith(peopleOf(people), ",;");
        }
        goesOnWith(peopleOf(6), ";");
        Check.due("hill() of one", Check.paged(peopleOf(1) + ";5").hill(), STATE);
        for (int people = 2; people <= 6; people++) {
            DugBySaid x = Check.paged(peopleOf(people) + ";5");
            Check.due("hill() of " + people, x.hill(), people);
            Check.due("people of " + people, x.count(0), people);
            Check.due("the page behind it", x.count(7), 0);
        }
        DugBySaid seven = Check.paged(peopleOf(7) + ";5");
        Check.due("letters of seven", seven.count(7), 22);
        Check.due("hill() of seven", seven.hill(), STATE);
    }

    private static void peopleAreNumberedFromNought() {
        Doc.says("What it is", "(numbered from 0)");
        for (int people = 2; people <= 6; people++) {
            DugBySaid x = Check.hilled(peopleOf(people) + ";5");
            Check.due("ahead of the first of " + people, x.person(-1, 0), UNKNOWN);
            Check.due("the first of " + people, x.person(0, 0), 0);
            Check.due("the last of " + people, x.person(people - 1, 0), 0);
            Check.due("behind the last of " + people, x.person(people, 0), UNKNOWN);
        }
    }

    private static void kindsAreFiveLetters() {
        Doc.says("What it is", "each a letter, the KIND");
        goesOnWith("", "msgcp");
        for (int people = 1; people <= 5; people++) {
            goesOnWith(peopleOf(people) + ",", "msgcp");
        }
    }

    private static void nextIsOneDigit() {
        Doc.says("What it is", "the NEXT one whom he tells (0 to 9;");
        goesOnWith("m", DIGITS);
        for (int people = 1; people <= 5; people++) {
            goesOnWith(peopleOf(people) + ",p", DIGITS);
        }
    }

    private static void riverIsOneToNine() {
        Doc.says("What it is", "the RIVER (1 to 9)");
        for (int people = 2; people <= 6; people++) {
            goesOnWith(peopleOf(people) + ";", "123456789");
        }
        for (int river = 1; river <= 9; river++) {
            Check.due("the river " + river, Check.hilled("m1,m0;" + river).count(1), river);
        }
        Check.due("a river of 0", Check.paged("m1,m0;0").hill(), STATE);
        Check.due("a river of ':', the sign behind 9", Check.paged("m1,m0;:").hill(), STATE);
        Check.due("a river of 10", Check.paged("m1,m0;10").hill(), STATE);
    }

    private static void nothingComesBehind() {
        for (int people = 2; people <= 6; people++) {
            String whole = peopleOf(people) + ";9";
            goesOnWith(whole, "");
            Check.due("one letter less", Check.paged(whole.substring(0, whole.length() - 1)).hill(), STATE);
            Check.due("one letter more", Check.paged(whole + "9").hill(), STATE);
        }
    }

    private static void ownNumberIsNobody() {
        Doc.says("What it is", "nobody, if it is his own number");
        for (int person = 0; person < 6; person++) {
            for (int next = 0; next < 6; next++) {
                DugBySaid x = Check.hilled(withNext(6, person, next));
                Check.due("next " + next + " of " + person, x.person(person, 1), next == person ? NONE : next);
                Check.due("told by " + person, x.person(person, 2), next == person ? 0 : 1 << next);
            }
        }
    }

    private static void noneSuchIsNobody() {
        Doc.says("What it is", "or there is none such");
        for (int people = 2; people <= 6; people++) {
            for (int next = 1; next <= 9; next++) {
                DugBySaid x = Check.hilled(withNext(people, 0, next));
                Check.due("next " + next + " among " + people, x.person(0, 1), next < people ? next : NONE);
                Check.due("told among " + people, x.person(0, 2), next < people ? 1 << next : 0);
            }
        }
    }

    /** All tell nobody but one. */
    private static String withNext(int people, int person, int next) {
        StringBuilder text = new StringBuilder();
        for (int one = 0; one < people; one++) {
            text.append(one == 0 ? "m" : ",m").append(one == person ? next : one);
        }
        return text.append(";9").toString();
    }

    private static void calls512() {
        Doc.says("What it is", "An object is used for at most 512 calls after it has been made");
        DugBySaid x = Check.hilled("m1,m0;9");
        DugBySaid young = Check.hilled("m1,m0;9");
        for (int call = 9; call <= 510; call++) {
            x.next(0, call % 2);
        }
        young.next(0, 0);
        Check.due("call 511", x.count(5), 502);
        // The changes stand four numbers from the end.
        Check.due("call 512", x.digest(), young.digest() + 501 * 31 * 31 * 31);
        // Later answers are free, but none may throw.
        for (int call = 0; call < 3000; call++) {
            x.letter(call % 130);
            x.hill();
            x.next(call % 7, call % 3);
            x.tell(call % 4, call % 7);
            x.deny(call % 4);
            x.day();
            x.heard(call % 7, call % 11);
            x.digest();
        }
    }

    private static void atFirstThereIsNone() {
        Doc.says("Promise 1", "No HILL.");
        Doc.says("Terms", "At first there is none; then nobody has HEARD anything.");
        Check.due("people at first", new DugBySaid().count(0), 0);
        Check.due("river at first", new DugBySaid().count(1), 0);
        Check.due("nobody is known at first", new DugBySaid().person(0, 0), UNKNOWN);
        DugBySaid x = Check.hilled("m1,m0;9");
        Check.due("then he is known", x.person(0, 0), 0);
        Check.due("and has heard nothing", x.person(0, 3), 0);
        Check.due("nor has anybody", x.count(4), 0);
        Check.due("the first to be told", x.tell(0, 0), 1);
        Check.due("has heard something", x.person(0, 3), 1);
    }

    private static void codesAre1To126() {
        Doc.says("Promise 2", "OUTSIDE: code (1 to 126)");
        for (int code = 1; code <= 126; code++) {
            Check.due("letter(" + code + ")", new DugBySaid().letter(code), 1);
        }
        int[] wrong = {Integer.MIN_VALUE, 'm' - 65536, 'm' - 256, -104, -102, -1, 0, 127, 128,
            'm' + 128, 'm' + 256, 'm' + 65536, Integer.MAX_VALUE};
        for (int code : wrong) {
            refusesLetter(code);
        }
    }

    private static void refusesLetter(int code) {
        Twin.refuses("letter(" + code + "), new", Twin::isNew, x -> x.letter(code), OUTSIDE);
        Twin.refuses("letter(" + code + "), busy", Twin::isBusy, x -> x.letter(code), OUTSIDE);
        Twin.refuses("letter(" + code + "), full: outside is told first", HillEdges::isFull, x -> x.letter(code), OUTSIDE);
    }

    private static void isFull(DugBySaid x) {
        Check.write(x, "m1,m1,m1,m1,m1,m1;7777");
    }

    private static void pageHolds22() {
        Doc.says("Promise 2", "how many THE PAGE has");
        Doc.says("Promise 2", "FULL: above 22");
        DugBySaid x = new DugBySaid();
        for (int many = 1; many <= 22; many++) {
            Check.due("letter " + many, x.letter('m'), many);
        }
        Check.due("letter 23", x.letter('m'), FULL);
        Check.due("letter 23 again", x.letter(1), FULL);
        Check.due("the page is full", x.count(7), 22);
        Twin.refuses("a letter too many", HillEdges::isFull, y -> y.letter('m'), FULL);
        x.blank();
        Check.due("room again", x.letter('m'), 1);
    }

    private static void blankTellsHowMany() {
        Doc.says("Promise 3", "how many letters it had");
        for (int many = 0; many <= 22; many++) {
            DugBySaid page = Check.paged("x".repeat(many));
            Check.due("blank() of " + many, page.blank(), many);
            Check.due("empty then", page.count(7), 0);
            Check.due("blank() again", page.blank(), 0);
        }
        DugBySaid x = new DugBySaid();
        isFull(x);
        Check.due("a letter too many is not among them", x.letter('m'), FULL);
        Check.due("blank() of a full page", x.blank(), 22);
        Check.write(x, "m1,m0;4");
        Check.due("nothing of it is left", x.hill(), 2);
    }

    private static void faultIsFromNought() {
        Doc.says("Promise 4", "The place (from 0) of the first letter of THE PAGE that no HILL has there");
        String right = "m1,m1,m1,m1,m1,m1;9";
        for (int place = 0; place < right.length(); place++) {
            String text = right.substring(0, place) + "x" + right.substring(place + 1);
            Check.due("fault() of " + text, Check.paged(text).fault(), place);
            Check.due("fault() of two wrong ones", Check.paged(text + "x").fault(), place);
            Check.due("hill() of " + text, Check.paged(text).hill(), STATE);
        }
        Check.due("behind a whole one", Check.paged(right + "9").fault(), 19);
        Check.due("behind it, full", Check.paged(right + "999").fault(), 19);
    }

    private static void faultOfNone() {
        Doc.says("Promise 4", "how many letters it has, if there is none");
        String right = "p0,c9,g1,s2,m3,m4;1";
        for (int many = 0; many <= right.length(); many++) {
            Check.due("fault() of " + many + " right letters", Check.paged(right.substring(0, many)).fault(), many);
        }
        DugBySaid x = Check.hilled(right);
        Check.due("fault() of the page that was read", x.fault(), 0);
    }

    private static void anotherHillIsGone() {
        Doc.says("Promise 5", "(another one is gone, with all that was)");
        DugBySaid x = new DugBySaid();
        Twin.isBusy(x);
        x.blank();
        Check.write(x, "p1,s0,c1;2");
        Check.due("hill() of another", x.hill(), 3);
        DugBySaid fresh = Check.hilled("p1,s0,c1;2");
        for (int what = 0; what <= 7; what++) {
            Check.due("count(" + what + ") as if new", x.count(what), fresh.count(what));
        }
        Check.due("but it is the second", x.count(8), 2);
        Check.due("its people alone are known", x.person(3, 0), UNKNOWN);
        Check.due("the image is gone", x.restore(), STATE);
        for (int many = 1; many <= 8; many++) {
            Check.due("what was asked is gone", x.heard(0, 0), many);
        }
        for (int times = 1; times <= 9; times++) {
            x.deny(1);
            Check.due("denials are gone", x.tunnel(1, 3), times);
        }
    }

    private static void noHillIsState() {
        Doc.says("Promise 5", "STATE: it is none");
        String[] pages = {"", "m", "m1", "m1,", "m1,m", "m1,m0", "m1,m0;", "m1;5", "m1,m0;0", "m1,m0;55", "m1,m0,;5", ";5"};
        for (String text : pages) {
            Twin.refuses("hill() of " + text, x -> Check.write(x, text), DugBySaid::hill, STATE);
            Twin.refuses("hill() of " + text + ", busy", x -> rewritten(x, text), DugBySaid::hill, STATE);
        }
        Twin.refuses("hill() of a full page", HillEdges::isFull, DugBySaid::hill, STATE);
        DugBySaid x = Check.hilled("m1,m0;5");
        Check.due("hill() a second time: the page is empty", x.hill(), STATE);
        Check.due("the hill stands", x.count(0), 2);
    }

    private static void rewritten(DugBySaid x, String text) {
        Twin.isBusy(x);
        x.blank();
        Check.write(x, text);
    }
}
