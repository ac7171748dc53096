import java.util.Random;

/** All promises: runs of calls by a fixed seed, on the class and on the Model, whose answers must be the same. */
public final class ModelTest {
    private static final int RUNS = 1500, CALLS = 512;
    private static final int[] FAR = {Integer.MIN_VALUE, Integer.MAX_VALUE, -101, -2, -1, 31, 32, 64, 1000};

    private final Random random;
    private final DugBySaid x = new DugBySaid();
    private final Model model = new Model();
    private final String name;
    private int calls = 0;

    private ModelTest(int run) {
        random = new Random(run);
        name = "run " + run + ", call ";
    }

    public static void main(String[] args) {
        for (int run = 0; run < RUNS; run++) {
            new ModelTest(run).go();
        }
        Check.end();
    }

    private void go() {
        while (calls < CALLS) {
            if (random.nextInt(60) == 0 || calls == 0) {
                writeHill();
            }
            anyCall(random.nextInt(24));
        }
    }

    private void due(String call, long got, long want) {
        calls++;
        Check.due(name + calls + ": " + call, got, want);
    }

    private int about(int most) {
        return random.nextInt(25) == 0 ? FAR[random.nextInt(FAR.length)] : random.nextInt(most + 2) - (random.nextInt(12) == 0 ? 1 : 0);
    }

    private void put(int code) {
        due("letter(" + code + ")", x.letter(code), model.letter(code));
    }

    /** Mostly a right one; now and then one letter is another. */
    private void writeHill() {
        int people = 2 + random.nextInt(5);
        StringBuilder text = new StringBuilder();
        for (int person = 0; person < people; person++) {
            text.append(person == 0 ? "" : ",").append("msgcp".charAt(random.nextInt(5)));
            text.append(random.nextInt(6) == 0 ? random.nextInt(10) : random.nextInt(people));
        }
        text.append(';').append(1 + random.nextInt(9));
        if (random.nextInt(5) == 0) {
            text.setCharAt(random.nextInt(text.length()), "msgcp0123456789,;x".charAt(random.nextInt(18)));
        }
        if (random.nextInt(8) != 0) {
            due("blank()", x.blank(), model.blank());
        }
        for (int at = 0; at < text.length(); at++) {
            put(text.charAt(at));
        }
        due("fault()", x.fault(), model.fault());
        due("hill() of " + text, x.hill(), model.hill());
    }

    private void anyCall(int which) {
        int a = about(6);
        int b = about(6);
        switch (which) {
            case 0: put(random.nextInt(4) == 0 ? about(130) : "msgcp0123456789,;".charAt(random.nextInt(17))); break;
            case 1: due("fault()", x.fault(), model.fault()); break;
            case 2: due("person(" + a + ", " + b + ")", x.person(a, b), model.person(a, b)); break;
            case 3: due("as(" + a + ", " + b + ")", x.as(a, b), model.as(a, b)); break;
            case 4: due("next(" + a + ", " + b + ")", x.next(a, b), model.next(a, b)); break;
            case 5:
            case 6: tell(about(2), a); break;
            case 7:
            case 8: due("day()", x.day(), model.day()); break;
            case 9: tunnelCalls(about(2), about(5)); break;
            case 10: aim(about(13), about(1)); break;
            case 11:
            case 12: heard(a, about(6)); break;
            case 13: sometimes(); break;
            case 14: due("began()", x.began(), model.began()); break;
            case 15: due("ask()", x.ask(), model.ask()); break;
            case 16: markets(about(60), random.nextBoolean() ? random.nextInt() : about(70000), about(2)); break;
            case 17: due("count(" + a + ")", x.count(a), model.count(a)); break;
            case 18: due("count(" + (a + 3) + ")", x.count(a + 3), model.count(a + 3)); break;
            default: moreOften(which, a); break;
        }
    }

    private void moreOften(int which, int a) {
        switch (which) {
            case 19: due("digest()", x.digest(), model.digest()); break;
            case 20: tell(random.nextInt(3), random.nextInt(6)); break;
            case 21: tunnelCalls(random.nextInt(3), random.nextInt(5)); break;
            case 22: due("person(" + a + ", 4)", x.person(a, 4), model.person(a, 4)); break;
            default: due("person(" + a + ", 5)", x.person(a, 5), model.person(a, 5)); break;
        }
    }

    private void sometimes() {
        switch (random.nextInt(6)) {
            case 0: due("forget()", x.forget(), model.forget()); break;
            case 1:
            case 2: due("image()", x.image(), model.image()); break;
            case 3: due("hill()", x.hill(), model.hill()); break;
            case 4: due("blank()", x.blank(), model.blank()); break;
            default: due("restore()", x.restore(), model.restore()); break;
        }
    }

    private void tell(int tunnel, int person) {
        due("tell(" + tunnel + ", " + person + ")", x.tell(tunnel, person), model.tell(tunnel, person));
    }

    private void tunnelCalls(int tunnel, int what) {
        if (random.nextInt(3) == 0) {
            due("deny(" + tunnel + ")", x.deny(tunnel), model.deny(tunnel));
        }
        due("tunnel(" + tunnel + ", " + what + ")", x.tunnel(tunnel, what), model.tunnel(tunnel, what));
    }

    private void aim(int length, int what) {
        due("aim(" + length + ", " + what + ")", x.aim(length, what), model.aim(length, what));
    }

    private void heard(int person, int day) {
        due("heard(" + person + ", " + day + ")", x.heard(person, day), model.heard(person, day));
    }

    private void markets(int times, int seed, int what) {
        String call = "markets(" + times + ", " + seed + ", " + what + ")";
        due(call, x.markets(times, seed, what), model.markets(times, seed, what));
    }
}
