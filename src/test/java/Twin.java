import java.util.ArrayList;
import java.util.List;
import java.util.function.Consumer;
import java.util.function.ToIntFunction;

/** Refusals: of two objects with one past only one is asked, and then both must have one future. */
final class Twin {
    static final int NONE = -1, UNKNOWN = -101, OUTSIDE = -102, STATE = -103, FULL = -104;
    /** Numbers that name nothing anywhere: far ones, those of refusals, and those that a shift or a cast would fold. */
    static final int[] FAR = {Integer.MIN_VALUE, Integer.MIN_VALUE + 1, -104, -101, -32, -31, -2,
        32, 33, 64, 256, 65536, Integer.MAX_VALUE - 1, Integer.MAX_VALUE};

    private Twin() {
    }

    static void refuses(String call, Consumer<DugBySaid> past, ToIntFunction<DugBySaid> refused, int want) {
        DugBySaid asked = new DugBySaid();
        DugBySaid other = new DugBySaid();
        past.accept(asked);
        past.accept(other);
        Check.due(call, refused.applyAsInt(asked), want);
        Check.holds(call + " changes nothing", future(asked).equals(future(other)));
    }

    static void isNew(DugBySaid x) {
    }

    /** Something of all there is: tunnels, days, a changed NEXT, ASKED, an IMAGE, and letters. */
    static void isBusy(DugBySaid x) {
        Check.write(x, "g1,m3,c0,p4,s2,m0;5");
        x.hill();
        x.tell(0, 0);
        x.day();
        x.heard(3, 2);
        x.deny(1);
        x.image();
        x.next(5, 2);
        x.tell(1, 5);
        x.day();
        x.deny(0);
        x.heard(2, 1);
        Check.write(x, "m1,m0");
    }

    static void isSmall(DugBySaid x) {
        Check.write(x, "m1,m0;9");
        x.hill();
    }

    /** What it answers, then, and after much that would show anything hidden, the IMAGE and THE PAGE too. */
    private static List<Long> future(DugBySaid x) {
        List<Long> answers = new ArrayList<>();
        look(x, answers);
        for (int tunnel = 0; tunnel < 3; tunnel++) {
            answers.add((long) x.tell(tunnel, tunnel));
            answers.add((long) x.deny(tunnel));
        }
        answers.add((long) x.day());
        answers.add((long) x.heard(1, 1));
        look(x, answers);
        answers.add((long) x.restore());
        look(x, answers);
        answers.add((long) x.letter(';'));
        answers.add((long) x.letter('7'));
        look(x, answers);
        answers.add((long) x.hill());
        look(x, answers);
        answers.add((long) x.restore());
        return answers;
    }

    private static void look(DugBySaid x, List<Long> answers) {
        answers.add(x.digest());
        answers.add((long) x.fault());
        for (int what = 0; what <= 8; what++) {
            answers.add((long) x.count(what));
        }
    }
}
