import java.util.ArrayList;
import java.util.HashMap;
import java.util.List;
import java.util.Map;
import java.util.Set;
import java.util.TreeSet;
import java.util.regex.Pattern;

/** The document again, by sets and patterns: slow and plain, and sharing no thought with the class it checks. */
final class Model {
    static final int NONE = -1, UNKNOWN = -101, OUTSIDE = -102, STATE = -103, FULL = -104;
    private static final Pattern HILL = Pattern.compile("[msgcp][0-9](,[msgcp][0-9]){1,5};[1-9]");

    private String page = "";
    private String kinds = "";
    private int river = 0;
    private int readings = 0;
    private Kept now = new Kept();
    private Kept kept = null;

    private static final class Kept {
        List<Integer> nexts = new ArrayList<>();
        List<Set<Integer>> heard = new ArrayList<>();
        List<Set<Integer>> last = new ArrayList<>();
        List<Integer> denied = new ArrayList<>();
        List<int[]> asked = new ArrayList<>();
        int days = 0;
        int changes = 0;

        Kept() {
            for (int tunnel = 0; tunnel < 3; tunnel++) {
                heard.add(new TreeSet<>());
                last.add(new TreeSet<>());
                denied.add(0);
            }
        }

        Kept twin() {
            Kept twin = new Kept();
            twin.nexts = new ArrayList<>(nexts);
            for (int tunnel = 0; tunnel < 3; tunnel++) {
                twin.heard.set(tunnel, new TreeSet<>(heard.get(tunnel)));
                twin.last.set(tunnel, new TreeSet<>(last.get(tunnel)));
            }
            twin.denied = new ArrayList<>(denied);
            twin.asked = new ArrayList<>(asked);
            twin.days = days;
            twin.changes = changes;
            return twin;
        }
    }

    int letter(int code) {
        if (code < 1 || code > 126) {
            return OUTSIDE;
        }
        if (page.length() == 22) {
            return FULL;
        }
        page += (char) code;
        return page.length();
    }

    int blank() {
        int had = page.length();
        page = "";
        return had;
    }

    /** A start of a HILL is one that some ending makes a whole one. */
    int fault() {
        for (int length = 1; length <= page.length(); length++) {
            if (!canBecomeHill(page.substring(0, length))) {
                return length - 1;
            }
        }
        return page.length();
    }

    private static boolean canBecomeHill(String start) {
        String[] endings = {"", "1", ";1", "0;1", "m0;1", ",m0;1", "0,m0;1"};
        for (String ending : endings) {
            if (HILL.matcher(start + ending).matches()) {
                return true;
            }
        }
        return false;
    }

    int hill() {
        if (!HILL.matcher(page).matches()) {
            return STATE;
        }
        String[] halves = page.split(";");
        String[] people = halves[0].split(",");
        river = Integer.parseInt(halves[1]);
        kinds = "";
        now = new Kept();
        for (int person = 0; person < people.length; person++) {
            kinds += people[person].charAt(0);
            int next = people[person].charAt(1) - '0';
            now.nexts.add(next == person || next >= people.length ? NONE : next);
        }
        kept = null;
        page = "";
        readings++;
        return people.length;
    }

    private boolean isPerson(int person) {
        return person >= 0 && person < kinds.length();
    }

    int person(int person, int what) {
        if (!isPerson(person)) {
            return UNKNOWN;
        }
        switch (what) {
            case 0: return "msgcp".indexOf(kinds.charAt(person));
            case 1: return now.nexts.get(person);
            case 2: return bits(toldBy(person));
            case 3: return (now.heard.get(0).contains(person) ? 1 : 0) + (now.heard.get(1).contains(person) ? 2 : 0)
                    + (now.heard.get(2).contains(person) ? 4 : 0);
            case 4: return lengthOf(daysHeard(Set.of(person)).keySet(), 0);
            case 5: return daysHeard(Set.of(person)).values().stream().max(Integer::compare).get();
            default: return OUTSIDE;
        }
    }

    int as(int person, int kind) {
        if (!isPerson(person)) {
            return UNKNOWN;
        }
        if (kind < 0 || kind > 4) {
            return OUTSIDE;
        }
        String such = new String[] {"msgcp", "s", "gp", "c", "p"}[kind];
        return such.indexOf(kinds.charAt(person)) >= 0 ? person : NONE;
    }

    int next(int person, int next) {
        if (!isPerson(person) || !(isPerson(next) || next == NONE)) {
            return UNKNOWN;
        }
        now.changes++;
        return now.nexts.set(person, next == person ? NONE : next);
    }

    private Set<Integer> toldBy(int person) {
        Set<Integer> told = new TreeSet<>();
        int next = now.nexts.get(person);
        char kind = kinds.charAt(person);
        if (kind != 's' && next != NONE) {
            told.add(next);
            if (kind == 'g' || kind == 'p') {
                told.add(next + 1);
            }
        }
        told.remove(person);
        told.remove(kinds.length());
        return told;
    }

    /** By the shortest ways from those told: each one who hears, with the DAY. */
    private Map<Integer, Integer> daysHeard(Set<Integer> told) {
        Map<Integer, Integer> days = new HashMap<>();
        for (int person : told) {
            days.put(person, 0);
        }
        boolean shorter = true;
        while (shorter) {
            shorter = false;
            for (int person = 0; person < kinds.length(); person++) {
                for (int other : days.containsKey(person) ? toldBy(person) : Set.<Integer>of()) {
                    int day = days.get(person) + 1;
                    if (day < days.getOrDefault(other, 1000)) {
                        days.put(other, day);
                        shorter = true;
                    }
                }
            }
        }
        return days;
    }

    private int lengthOf(Set<Integer> heard, int denied) {
        int yards = 0;
        boolean preached = false;
        for (int person : heard) {
            char kind = kinds.charAt(person);
            yards += kind == 'c' || kind == 'p' ? 2 : kind == 's' ? -1 : 1;
            preached = preached || kind == 'p';
        }
        int length = yards > denied ? yards - denied : 0;
        return length > river && !preached ? river : length;
    }

    private static int bits(Set<Integer> people) {
        int bits = 0;
        for (int person : people) {
            bits += 1 << person;
        }
        return bits;
    }

    private boolean isTunnel(int tunnel) {
        return !kinds.isEmpty() && tunnel >= 0 && tunnel <= 2;
    }

    private int lengthNow(int tunnel) {
        return lengthOf(now.heard.get(tunnel), now.denied.get(tunnel));
    }

    int tell(int tunnel, int person) {
        if (!isTunnel(tunnel) || !isPerson(person)) {
            return UNKNOWN;
        }
        if (now.heard.get(tunnel).contains(person)) {
            return STATE;
        }
        now.heard.get(tunnel).add(person);
        now.last.get(tunnel).add(person);
        return lengthNow(tunnel);
    }

    int day() {
        if (kinds.isEmpty()) {
            return STATE;
        }
        if (now.days + 1 == 100) {
            return FULL;
        }
        now.days++;
        int hearings = 0;
        for (int tunnel = 0; tunnel < 3; tunnel++) {
            hearings += dayOf(now, tunnel);
        }
        return hearings;
    }

    private int dayOf(Kept state, int tunnel) {
        Set<Integer> newest = new TreeSet<>();
        for (int person : state.last.get(tunnel)) {
            newest.addAll(toldBy(person));
        }
        newest.removeAll(state.heard.get(tunnel));
        state.last.set(tunnel, newest);
        state.heard.get(tunnel).addAll(newest);
        return newest.size();
    }

    int deny(int tunnel) {
        if (!isTunnel(tunnel)) {
            return UNKNOWN;
        }
        if (now.denied.get(tunnel) == 9) {
            return FULL;
        }
        now.denied.set(tunnel, now.denied.get(tunnel) + 1);
        return lengthNow(tunnel);
    }

    int tunnel(int tunnel, int what) {
        if (!isTunnel(tunnel)) {
            return UNKNOWN;
        }
        switch (what) {
            case 0: return lengthNow(tunnel);
            case 1: return bits(now.heard.get(tunnel));
            case 2: return bits(now.last.get(tunnel));
            case 3: return now.denied.get(tunnel);
            case 4: return lengthLater(tunnel);
            default: return OUTSIDE;
        }
    }

    private int lengthLater(int tunnel) {
        Kept later = now.twin();
        for (int day = 0; day < 20; day++) {
            dayOf(later, tunnel);
        }
        return lengthOf(later.heard.get(tunnel), later.denied.get(tunnel));
    }

    int aim(int length, int what) {
        if (length < 1 || length > 12 || what < 0 || what > 1) {
            return OUTSIDE;
        }
        if (kinds.isEmpty()) {
            return STATE;
        }
        for (int few = 1; few <= kinds.length(); few++) {
            for (int which = 1; which < 1 << kinds.length(); which++) {
                Set<Integer> told = new TreeSet<>();
                for (int person = 0; person < 6; person++) {
                    if (which / (1 << person) % 2 == 1) {
                        told.add(person);
                    }
                }
                if (told.size() == few && lengthOf(daysHeard(told).keySet(), 0) == length) {
                    return what == 0 ? few : which;
                }
            }
        }
        return NONE;
    }

    int heard(int person, int day) {
        if (!isPerson(person)) {
            return UNKNOWN;
        }
        if (day < -1 || day > 9) {
            return OUTSIDE;
        }
        if (now.asked.size() == 8) {
            return FULL;
        }
        now.asked.add(new int[] {person, day});
        return now.asked.size();
    }

    int forget() {
        int was = now.asked.size();
        now.asked.clear();
        return was;
    }

    private Set<Integer> beginners(List<int[]> asked) {
        Set<Integer> all = new TreeSet<>();
        for (int person = 0; person < kinds.length(); person++) {
            boolean so = true;
            for (int[] one : asked) {
                so = so && daysHeard(Set.of(person)).getOrDefault(one[0], NONE) == one[1];
            }
            if (so) {
                all.add(person);
            }
        }
        return all;
    }

    int began() {
        return kinds.isEmpty() ? STATE : bits(beginners(now.asked));
    }

    /** Tries every answer of everybody, and looks who would be left. */
    int ask() {
        if (kinds.isEmpty()) {
            return STATE;
        }
        int best = NONE;
        int fewest = 1000;
        for (int person = 0; person < kinds.length() && !beginners(now.asked).isEmpty(); person++) {
            int worst = 0;
            for (int day = NONE; day <= 9; day++) {
                List<int[]> more = new ArrayList<>(now.asked);
                more.add(new int[] {person, day});
                worst = Math.max(worst, beginners(more).size());
            }
            if (worst < fewest) {
                fewest = worst;
                best = person;
            }
        }
        return best;
    }

    int markets(int times, int seed, int what) {
        if (times < 1 || times > 60 || seed < 0 || what < 0 || what > 2) {
            return OUTSIDE;
        }
        if (kinds.isEmpty()) {
            return STATE;
        }
        long drawn = seed;
        int together = 0;
        int longest = 0;
        for (int market = 0; market < times; market++) {
            drawn = (1103515245L * drawn + 12345L) % (1L << 31);
            int length = person((int) (drawn / 65536 % kinds.length()), 4);
            together += length;
            longest = length > longest ? length : longest;
        }
        return what == 0 ? together : what == 1 ? longest : (int) drawn;
    }

    int image() {
        if (kinds.isEmpty()) {
            return STATE;
        }
        kept = now.twin();
        return kept.days;
    }

    int restore() {
        if (kept == null) {
            return STATE;
        }
        now = kept.twin();
        return now.days;
    }

    int count(int what) {
        switch (what) {
            case 0: return kinds.length();
            case 1: return river;
            case 2: return now.days;
            case 3: return lengthNow(0) + lengthNow(1) + lengthNow(2);
            case 4: return now.heard.get(0).size() + now.heard.get(1).size() + now.heard.get(2).size();
            case 5: return now.changes;
            case 6: return now.asked.size();
            case 7: return page.length();
            case 8: return readings;
            default: return OUTSIDE;
        }
    }

    long digest() {
        List<Integer> numbers = new ArrayList<>();
        for (int person = 0; person < kinds.length(); person++) {
            for (int what = 0; what <= 5; what++) {
                numbers.add(person(person, what));
            }
        }
        if (!kinds.isEmpty()) {
            for (int at = 0; at < 15; at++) {
                numbers.add(tunnel(at / 5, at % 5));
            }
            numbers.addAll(List.of(aim(3, 0), aim(3, 1), aim(7, 0), aim(7, 1), began(), ask()));
        }
        page.chars().forEach(numbers::add);
        for (int what = 0; what <= 8; what++) {
            numbers.add(count(what));
        }
        long h = 1069;
        for (int number : numbers) {
            h = 31 * h + number;
        }
        return h;
    }
}
