import java.lang.management.ManagementFactory;
import java.lang.reflect.Constructor;
import java.lang.reflect.Field;
import java.lang.reflect.Method;
import java.lang.reflect.Modifier;
import java.util.Set;
import java.util.TreeSet;

/** The public face, and the room that calls take. */
public final class FaceTest {
    private static final Set<String> FACE = Set.of(
            "int letter(int)", "int blank()", "int fault()", "int hill()", "int person(int,int)", "int as(int,int)",
            "int next(int,int)", "int tell(int,int)", "int day()", "int deny(int)", "int tunnel(int,int)",
            "int aim(int,int)", "int heard(int,int)", "int forget()", "int began()", "int ask()",
            "int markets(int,int,int)", "int image()", "int restore()", "int count(int)", "long digest()");

    public static void main(String[] args) {
        constants();
        members();
        room();
        Check.end();
    }

    private static void constants() {
        Check.due("NONE", DugBySaid.NONE, -1);
        Check.due("UNKNOWN", DugBySaid.UNKNOWN, -101);
        Check.due("OUTSIDE", DugBySaid.OUTSIDE, -102);
        Check.due("STATE", DugBySaid.STATE, -103);
        Check.due("FULL", DugBySaid.FULL, -104);
    }

    private static void members() {
        Check.holds("the class is public and final",
                DugBySaid.class.getModifiers() == (Modifier.PUBLIC | Modifier.FINAL));
        Set<String> found = new TreeSet<>();
        Set<String> publicNames = new TreeSet<>();
        for (Method method : DugBySaid.class.getDeclaredMethods()) {
            if (!Modifier.isPrivate(method.getModifiers()) && !method.isSynthetic()) {
                Check.holds(method + " is plainly public", method.getModifiers() == Modifier.PUBLIC);
                found.add(signature(method));
                publicNames.add(method.getName());
            }
        }
        Check.holds("the methods are the document's: " + found, found.equals(FACE));
        for (Method method : DugBySaid.class.getDeclaredMethods()) {
            boolean own = Modifier.isPrivate(method.getModifiers());
            Check.holds(method + " has a name of its own", !own || !publicNames.contains(method.getName()));
        }
        Set<String> constants = new TreeSet<>();
        for (Field field : DugBySaid.class.getDeclaredFields()) {
            if (!Modifier.isPrivate(field.getModifiers())) {
                constants.add(field.getName());
            }
            Check.holds(field + " is final, if static",
                    !Modifier.isStatic(field.getModifiers()) || Modifier.isFinal(field.getModifiers()));
        }
        Check.holds("the constants are the document's: " + constants,
                constants.equals(Set.of("NONE", "UNKNOWN", "OUTSIDE", "STATE", "FULL")));
        Constructor<?>[] made = DugBySaid.class.getDeclaredConstructors();
        Check.holds("one public constructor without arguments",
                made.length == 1 && made[0].getParameterCount() == 0 && Modifier.isPublic(made[0].getModifiers()));
    }

    private static String signature(Method method) {
        StringBuilder text = new StringBuilder(method.getReturnType().getName());
        text.append(' ').append(method.getName()).append('(');
        for (Class<?> type : method.getParameterTypes()) {
            text.append(text.charAt(text.length() - 1) == '(' ? "" : ",").append(type.getName());
        }
        return text.append(')').toString();
    }

    /** What a call makes counts against the room of all runs; so calls make nothing at all. */
    private static void room() {
        com.sun.management.ThreadMXBean threads =
                (com.sun.management.ThreadMXBean) ManagementFactory.getThreadMXBean();
        long thread = Thread.currentThread().getId();
        DugBySaid x = new DugBySaid();
        everyCall(x);
        threads.getThreadAllocatedBytes(thread);
        long before = threads.getThreadAllocatedBytes(thread);
        for (int times = 0; times < 1000; times++) {
            everyCall(x);
        }
        long made = threads.getThreadAllocatedBytes(thread) - before;
        Check.holds("a thousand rounds of all calls made " + made + " bytes", made < 10000);
    }

    private static void everyCall(DugBySaid x) {
        x.blank();
        String text = "g1,m3,c0,p4,s2,m0;5";
        for (int at = 0; at < text.length(); at++) {
            x.letter(text.charAt(at));
        }
        x.fault();
        x.hill();
        x.person(0, 4);
        x.as(0, 2);
        x.next(0, 3);
        x.tell(0, 0);
        x.day();
        x.deny(0);
        x.tunnel(0, 4);
        x.aim(3, 1);
        x.heard(0, 1);
        x.began();
        x.ask();
        x.forget();
        x.markets(60, 5, 0);
        x.image();
        x.restore();
        x.count(3);
        x.digest();
    }
}
