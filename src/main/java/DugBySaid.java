/** Tunnels under a hill that get longer by what is said of them; DOC.md tells what each call answers. */
public final class DugBySaid {
    public static final int NONE = -1, UNKNOWN = -101, OUTSIDE = -102, STATE = -103, FULL = -104;

    private static final int MAN = 0, SCEPTIC = 1, GOSSIP = 2, CHILD = 3, PRIEST = 4;
    // The place of a letter is its KIND.
    private static final String KIND_LETTERS = "msgcp";
    private static final int KINDS = 5;

    private static final int LAST_CODE = 126, MOST_LETTERS = 22;
    private static final int LEAST_PEOPLE = 2, MOST_PEOPLE = 6;
    // A person's letter and digit, and the sign behind them.
    private static final int PERSON_WIDTH = 3;
    private static final int TUNNELS = 3, MOST_DENIED = 9, LAST_DAY = 99;
    private static final int LONGEST_AIM = 12;
    private static final int MOST_ASKED = 8, LAST_ASKED_DAY = 9;
    private static final int MOST_MARKETS = 60;
    private static final int PERSON_WHATS = 6, TUNNEL_WHATS = 5, AIM_WHATS = 2, MARKET_WHATS = 3, COUNT_WHATS = 9;

    private final Page page;
    private final Hill ground;
    private final Past now;
    private final Past kept;
    private final Talk talk;
    private final Riddle riddle;
    private boolean hasImage;
    private int readings;

    public DugBySaid() {
        page = new Page();
        ground = new Hill();
        now = new Past();
        kept = new Past();
        talk = new Talk(ground, now);
        riddle = new Riddle(ground, now, talk);
        hasImage = false;
        readings = 0;
    }

    // ---- the hill

    public int letter(int code) {
        if (code < 1 || code > LAST_CODE) {
            return OUTSIDE;
        }
        return page.put(code) ? page.length : FULL;
    }

    public int blank() {
        int had = page.length;
        page.clear();
        return had;
    }

    public int fault() {
        return page.firstFault();
    }

    public int hill() {
        if (!page.isHill()) {
            return STATE;
        }
        ground.read(page);
        now.begin();
        for (int person = 0; person < ground.people; person++) {
            int next = page.nextWritten(person);
            point(person, ground.has(next) ? next : NONE);
        }
        hasImage = false;
        readings++;
        page.clear();
        return ground.people;
    }

    public int person(int person, int what) {
        if (!ground.has(person)) {
            return UNKNOWN;
        }
        switch (what) {
            case 0: return ground.kindOf(person);
            case 1: return now.nextOf(person);
            case 2: return now.listenersOf(person);
            case 3: return now.tunnelsHeardBy(person);
            case 4: return talk.ends(1 << person);
            case 5: return talk.lasts(person);
            default: return OUTSIDE;
        }
    }

    public int as(int person, int kind) {
        if (!ground.has(person)) {
            return UNKNOWN;
        }
        if (kind < 0 || kind >= KINDS) {
            return OUTSIDE;
        }
        return isOfKind(ground.kindOf(person), kind) ? person : NONE;
    }

    public int next(int person, int next) {
        if (!ground.has(person) || (next != NONE && !ground.has(next))) {
            return UNKNOWN;
        }
        int was = now.nextOf(person);
        point(person, next);
        now.changes++;
        return was;
    }

    private void point(int person, int next) {
        int whom = next == person ? NONE : next;
        now.setNext(person, whom, ground.listeners(person, whom));
    }

    // ---- tunnels

    public int tell(int tunnel, int person) {
        if (!isTunnel(tunnel) || !ground.has(person)) {
            return UNKNOWN;
        }
        int told = 1 << person;
        if ((now.heard[tunnel] & told) != 0) {
            return STATE;
        }
        now.heard[tunnel] |= told;
        now.last[tunnel] |= told;
        return lengthOf(tunnel);
    }

    public int day() {
        if (!ground.isThere()) {
            return STATE;
        }
        if (now.days >= LAST_DAY) {
            return FULL;
        }
        now.days++;
        int hearings = 0;
        for (int tunnel = 0; tunnel < TUNNELS; tunnel++) {
            now.last[tunnel] = talk.hearers(now.heard[tunnel], now.last[tunnel]);
            now.heard[tunnel] |= now.last[tunnel];
            hearings += Integer.bitCount(now.last[tunnel]);
        }
        return hearings;
    }

    public int deny(int tunnel) {
        if (!isTunnel(tunnel)) {
            return UNKNOWN;
        }
        if (now.denied[tunnel] >= MOST_DENIED) {
            return FULL;
        }
        now.denied[tunnel]++;
        return lengthOf(tunnel);
    }

    public int tunnel(int tunnel, int what) {
        if (!isTunnel(tunnel)) {
            return UNKNOWN;
        }
        switch (what) {
            case 0: return lengthOf(tunnel);
            case 1: return now.heard[tunnel];
            case 2: return now.last[tunnel];
            case 3: return now.denied[tunnel];
            case 4: return talk.lengthInTheEnd(now.heard[tunnel], now.last[tunnel], now.denied[tunnel]);
            default: return OUTSIDE;
        }
    }

    private boolean isTunnel(int tunnel) {
        return ground.isThere() && tunnel >= 0 && tunnel < TUNNELS;
    }

    private int lengthOf(int tunnel) {
        return ground.length(now.heard[tunnel], now.denied[tunnel]);
    }

    // ---- what would be

    public int aim(int length, int what) {
        if (length < 1 || length > LONGEST_AIM || what < 0 || what >= AIM_WHATS) {
            return OUTSIDE;
        }
        if (!ground.isThere()) {
            return STATE;
        }
        int fewest = fewestToTell(length);
        if (fewest == 0) {
            return NONE;
        }
        return what == 0 ? Integer.bitCount(fewest) : fewest;
    }

    /** As bits; 0 stands for none, since a TUNNEL that nobody is told of never gets a length. */
    private int fewestToTell(int length) {
        int fewest = 0;
        int few = ground.people + 1;
        for (int told = 1; told < 1 << ground.people; told++) {
            // Rising bits and fewer than before alone: so of like ones the least stays.
            if (Integer.bitCount(told) < few && talk.ends(told) == length) {
                fewest = told;
                few = Integer.bitCount(told);
            }
        }
        return fewest;
    }

    // ---- what is asked

    public int heard(int person, int day) {
        if (!ground.has(person)) {
            return UNKNOWN;
        }
        if (day != NONE && (day < 0 || day > LAST_ASKED_DAY)) {
            return OUTSIDE;
        }
        return now.note(person, day) ? now.asked : FULL;
    }

    public int forget() {
        int was = now.asked;
        now.asked = 0;
        return was;
    }

    public int began() {
        return ground.isThere() ? riddle.beginners() : STATE;
    }

    public int ask() {
        return ground.isThere() ? riddle.bestToAsk(riddle.beginners()) : STATE;
    }

    public int markets(int times, int seed, int what) {
        if (times < 1 || times > MOST_MARKETS || seed < 0 || what < 0 || what >= MARKET_WHATS) {
            return OUTSIDE;
        }
        int people = ground.people;
        if (people < 1) {
            return STATE;
        }
        int drawn = seed;
        int together = 0;
        int longest = 0;
        for (int market = 0; market < times; market++) {
            drawn = seedBehind(drawn);
            int length = talk.ends(1 << (drawn / 65536 % people));
            together += length;
            longest = Math.max(longest, length);
        }
        switch (what) {
            case 0: return together;
            case 1: return longest;
            default: return drawn;
        }
    }

    /** An int wraps by 2 to the 32, so the mask leaves just the rest by 2 to the 31. */
    private static int seedBehind(int seed) {
        return (1103515245 * seed + 12345) & 0x7fffffff;
    }

    // ---- what is told of all

    public int image() {
        if (!ground.isThere()) {
            return STATE;
        }
        kept.copy(now);
        hasImage = true;
        return kept.days;
    }

    public int restore() {
        if (!hasImage) {
            return STATE;
        }
        now.copy(kept);
        return now.days;
    }

    public int count(int what) {
        switch (what) {
            case 0: return ground.people;
            case 1: return ground.river;
            case 2: return now.days;
            case 3: return lengthOfAll();
            case 4: return now.hearings();
            case 5: return now.changes;
            case 6: return now.asked;
            case 7: return page.length;
            case 8: return readings;
            default: return OUTSIDE;
        }
    }

    private int lengthOfAll() {
        int together = 0;
        for (int tunnel = 0; tunnel < TUNNELS; tunnel++) {
            together += lengthOf(tunnel);
        }
        return together;
    }

    public long digest() {
        long h = 1069L;
        // Without a HILL there are no such numbers at all, and a refusal does not stand for one.
        if (ground.isThere()) {
            h = withPeople(h);
            h = withTunnels(h);
            h = mixed(h, aim(3, 0));
            h = mixed(h, aim(3, 1));
            h = mixed(h, aim(7, 0));
            h = mixed(h, aim(7, 1));
            h = mixed(h, began());
            h = mixed(h, ask());
        }
        h = withLetters(h);
        for (int what = 0; what < COUNT_WHATS; what++) {
            h = mixed(h, count(what));
        }
        return h;
    }

    private long withPeople(long before) {
        long h = before;
        for (int person = 0; person < ground.people; person++) {
            for (int what = 0; what < PERSON_WHATS; what++) {
                h = mixed(h, person(person, what));
            }
        }
        return h;
    }

    private long withTunnels(long before) {
        long h = before;
        for (int tunnel = 0; tunnel < TUNNELS; tunnel++) {
            for (int what = 0; what < TUNNEL_WHATS; what++) {
                h = mixed(h, tunnel(tunnel, what));
            }
        }
        return h;
    }

    private long withLetters(long before) {
        long h = before;
        for (int place = 0; place < page.length; place++) {
            h = mixed(h, page.codeAt(place));
        }
        return h;
    }

    private static long mixed(long h, long number) {
        return 31L * h + number;
    }

    private static boolean isOfKind(int own, int kind) {
        return kind == MAN || kind == own || (kind == GOSSIP && own == PRIEST);
    }

    private static boolean isIn(int person, int bits) {
        return ((bits >> person) & 1) != 0;
    }

    /** THE PAGE: the letters that may become a HILL. */
    private static final class Page {
        private final int[] codes;
        private int length;

        Page() {
            codes = new int[MOST_LETTERS];
            length = 0;
        }

        boolean put(int code) {
            if (length < 0 || length >= codes.length) {
                return false;
            }
            codes[length] = code;
            length++;
            return true;
        }

        void clear() {
            length = 0;
        }

        int firstFault() {
            for (int place = 0; place < length; place++) {
                if (!fits(place)) {
                    return place;
                }
            }
            return length;
        }

        boolean isHill() {
            return codeAt(length - 2) == ';' && firstFault() == length;
        }

        int peopleWritten() {
            return length / PERSON_WIDTH;
        }

        int kindWritten(int person) {
            return kindOfLetter(codeAt(person * PERSON_WIDTH));
        }

        int nextWritten(int person) {
            return codeAt(person * PERSON_WIDTH + 1) - '0';
        }

        int riverWritten() {
            return codeAt(length - 1) - '0';
        }

        /** 0, which no letter has, where there is none. */
        int codeAt(int place) {
            return place >= 0 && place < length && place < codes.length ? codes[place] : 0;
        }

        /** Right only where all letters ahead fit; so a ';' two places ahead means that the HILL has ended. */
        private boolean fits(int place) {
            int code = codeAt(place);
            int person = place / PERSON_WIDTH;
            switch (place % PERSON_WIDTH) {
                case 0:
                    return codeAt(place - 1) == ';' ? code >= '1' && code <= '9' : kindOfLetter(code) != NONE;
                case 1:
                    return codeAt(place - 2) != ';' && code >= '0' && code <= '9';
                default:
                    return (code == ',' && person + 1 < MOST_PEOPLE) || (code == ';' && person + 1 >= LEAST_PEOPLE);
            }
        }

        private static int kindOfLetter(int code) {
            return KIND_LETTERS.indexOf((char) code);
        }
    }

    /** THE HILL as it was read; no PEOPLE and no RIVER, as long as there is none. */
    private static final class Hill {
        private final int[] kinds;
        private int people;
        private int river;

        Hill() {
            kinds = new int[MOST_PEOPLE];
            people = 0;
            river = 0;
        }

        void read(Page page) {
            people = Math.min(page.peopleWritten(), MOST_PEOPLE);
            river = page.riverWritten();
            for (int person = 0; person < people; person++) {
                kinds[person] = page.kindWritten(person);
            }
        }

        boolean isThere() {
            return people > 0;
        }

        boolean has(int person) {
            return person >= 0 && person < people;
        }

        int kindOf(int person) {
            return person >= 0 && person < kinds.length ? kinds[person] : MAN;
        }

        /** Whom one tells whose NEXT one is this, as bits. */
        int listeners(int person, int next) {
            int kind = kindOf(person);
            if (kind == SCEPTIC || !has(next)) {
                return 0;
            }
            int beside = next + 1;
            boolean tellsBoth = isOfKind(kind, GOSSIP) && has(beside) && beside != person;
            return tellsBoth ? (1 << next) | (1 << beside) : 1 << next;
        }

        int length(int heard, int denied) {
            int yards = -denied;
            boolean preached = false;
            for (int person = 0; person < people; person++) {
                if (isIn(person, heard)) {
                    yards += yardsBy(kindOf(person));
                    preached |= kindOf(person) == PRIEST;
                }
            }
            int length = Math.max(yards, 0);
            return preached ? length : Math.min(length, river);
        }

        private static int yardsBy(int kind) {
            switch (kind) {
                case SCEPTIC: return -1;
                case CHILD:
                case PRIEST: return 2;
                default: return 1;
            }
        }
    }

    /** All that an IMAGE keeps. */
    private static final class Past {
        private final int[] nexts;
        private final int[] listeners;
        private final int[] heard;
        private final int[] last;
        private final int[] denied;
        private final int[] askedWhom;
        private final int[] askedDay;
        private int asked;
        private int days;
        private int changes;

        Past() {
            nexts = new int[MOST_PEOPLE];
            listeners = new int[MOST_PEOPLE];
            heard = new int[TUNNELS];
            last = new int[TUNNELS];
            denied = new int[TUNNELS];
            askedWhom = new int[MOST_ASKED];
            askedDay = new int[MOST_ASKED];
            asked = 0;
            days = 0;
            changes = 0;
        }

        /** Nothing has been said yet, and nobody tells anybody. */
        void begin() {
            for (int person = 0; person < MOST_PEOPLE; person++) {
                setNext(person, NONE, 0);
            }
            for (int tunnel = 0; tunnel < TUNNELS; tunnel++) {
                heard[tunnel] = 0;
                last[tunnel] = 0;
                denied[tunnel] = 0;
            }
            asked = 0;
            days = 0;
            changes = 0;
        }

        void copy(Past other) {
            System.arraycopy(other.nexts, 0, nexts, 0, MOST_PEOPLE);
            System.arraycopy(other.listeners, 0, listeners, 0, MOST_PEOPLE);
            System.arraycopy(other.heard, 0, heard, 0, TUNNELS);
            System.arraycopy(other.last, 0, last, 0, TUNNELS);
            System.arraycopy(other.denied, 0, denied, 0, TUNNELS);
            System.arraycopy(other.askedWhom, 0, askedWhom, 0, MOST_ASKED);
            System.arraycopy(other.askedDay, 0, askedDay, 0, MOST_ASKED);
            asked = other.asked;
            days = other.days;
            changes = other.changes;
        }

        int nextOf(int person) {
            return person >= 0 && person < nexts.length ? nexts[person] : NONE;
        }

        int listenersOf(int person) {
            return person >= 0 && person < listeners.length ? listeners[person] : 0;
        }

        void setNext(int person, int next, int toldByHim) {
            if (person >= 0 && person < nexts.length && person < listeners.length) {
                nexts[person] = next;
                listeners[person] = toldByHim;
            }
        }

        int tunnelsHeardBy(int person) {
            int bits = 0;
            for (int tunnel = 0; tunnel < TUNNELS; tunnel++) {
                if (isIn(person, heard[tunnel])) {
                    bits |= 1 << tunnel;
                }
            }
            return bits;
        }

        int hearings() {
            int all = 0;
            for (int tunnel = 0; tunnel < TUNNELS; tunnel++) {
                all += Integer.bitCount(heard[tunnel]);
            }
            return all;
        }

        boolean note(int person, int day) {
            if (asked < 0 || asked >= MOST_ASKED) {
                return false;
            }
            askedWhom[asked] = person;
            askedDay[asked] = day;
            asked++;
            return true;
        }
    }

    /** How a rumour goes from one to another on THE HILL, as NEXT ones are now. */
    private static final class Talk {
        private final Hill hill;
        private final Past past;

        Talk(Hill hill, Past past) {
            this.hill = hill;
            this.past = past;
        }

        /** Who hear it on the next DAY. */
        int hearers(int heard, int last) {
            int told = 0;
            for (int person = 0; person < hill.people; person++) {
                if (isIn(person, last)) {
                    told |= past.listenersOf(person);
                }
            }
            return told & ~heard;
        }

        int ends(int told) {
            return lengthInTheEnd(told, told, 0);
        }

        int lengthInTheEnd(int heard, int last, int denied) {
            int all = heard;
            int newest = last;
            // Somebody new hears on each DAY but the last, so there are no more of them than PEOPLE.
            for (int day = 0; day < hill.people && newest != 0; day++) {
                newest = hearers(all, newest);
                all |= newest;
            }
            return hill.length(all, denied);
        }

        int lasts(int beginner) {
            int lastDay = 0;
            for (int person = 0; person < hill.people; person++) {
                lastDay = Math.max(lastDay, dayHeard(beginner, person));
            }
            return lastDay;
        }

        /** NONE, if he never hears what the beginner alone was told on DAY 0. */
        int dayHeard(int beginner, int person) {
            int all = 1 << beginner;
            int newest = all;
            for (int day = 0; day < hill.people && newest != 0; day++) {
                if (isIn(person, newest)) {
                    return day;
                }
                newest = hearers(all, newest);
                all |= newest;
            }
            return NONE;
        }
    }

    /** Who began it, by what is ASKED. */
    private static final class Riddle {
        private final Hill hill;
        private final Past past;
        private final Talk talk;
        // How many are left by each answer: never, and then the DAYS from 0.
        private final int[] left;

        Riddle(Hill hill, Past past, Talk talk) {
            this.hill = hill;
            this.past = past;
            this.talk = talk;
            left = new int[MOST_PEOPLE + 1];
        }

        int beginners() {
            int bits = 0;
            for (int person = 0; person < hill.people; person++) {
                if (agrees(person)) {
                    bits |= 1 << person;
                }
            }
            return bits;
        }

        int bestToAsk(int beginners) {
            if (beginners == 0) {
                return NONE;
            }
            int best = NONE;
            int fewest = hill.people + 1;
            for (int person = 0; person < hill.people; person++) {
                int worst = leftAtWorst(person, beginners);
                if (worst < fewest) {
                    best = person;
                    fewest = worst;
                }
            }
            return best;
        }

        private boolean agrees(int beginner) {
            for (int at = 0; at < past.asked && at < MOST_ASKED; at++) {
                if (talk.dayHeard(beginner, past.askedWhom[at]) != past.askedDay[at]) {
                    return false;
                }
            }
            return true;
        }

        private int leftAtWorst(int person, int beginners) {
            for (int answer = 0; answer < left.length; answer++) {
                left[answer] = 0;
            }
            int worst = 0;
            for (int beginner = 0; beginner < hill.people; beginner++) {
                int answer = talk.dayHeard(beginner, person) + 1;
                if (isIn(beginner, beginners) && answer >= 0 && answer < left.length) {
                    left[answer]++;
                    worst = Math.max(worst, left[answer]);
                }
            }
            return worst;
        }
    }
}
