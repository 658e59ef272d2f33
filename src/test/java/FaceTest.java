import java.lang.reflect.Constructor;
import java.lang.reflect.Field;
import java.lang.reflect.Method;
import java.lang.reflect.Modifier;
import java.util.Arrays;
import java.util.Set;
import java.util.TreeSet;

/** The public face of the class, and promise 1. */
public final class FaceTest {
    private static final String[] METHODS = {
        "feed(long)", "end(int)", "vote(int)", "fault()", "unwind()", "rule(int,int)", "go(int)",
        "join()", "leave(int)", "bar(int,int,boolean)", "told(int,int)",
        "ask(int,int,int)", "offer(int,int,int)", "price(int)", "fits(int,int)", "met()", "sitter(int)",
        "why(int)", "would(int)", "broken(int)", "evening()",
        "sheet(int,int,int)", "lay(int,int,int)", "offers(int,int,int,int)", "count(int)"};

    private static final Check check = new Check("FaceTest");

    public static void main(String[] args) {
        methods();
        constants();
        nestedClasses();
        newObject();
        check.finish();
    }

    private static void is(String what, boolean holds) {
        check.due(what, holds ? 1 : 0, 1);
    }

    private static String signature(Method m) {
        StringBuilder b = new StringBuilder(m.getName()).append('(');
        for (Class<?> type : m.getParameterTypes()) {
            b.append(b.charAt(b.length() - 1) == '(' ? "" : ",").append(type.getName());
        }
        return b.append(')').toString();
    }

    private static void methods() {
        Set<String> open = new TreeSet<>();
        Set<String> openNames = new TreeSet<>();
        for (Method m : SitterCircle.class.getDeclaredMethods()) {
            if (!Modifier.isPrivate(m.getModifiers())) {
                open.add(signature(m));
                openNames.add(m.getName());
                is(m + " is public", Modifier.isPublic(m.getModifiers()));
                is(m + " answers an int", m.getReturnType() == int.class);
            }
        }
        is("the methods are the face's: " + open, open.equals(new TreeSet<>(Arrays.asList(METHODS))));
        for (Method m : SitterCircle.class.getDeclaredMethods()) {
            if (Modifier.isPrivate(m.getModifiers())) {
                is(m + " bears no public method's name", !openNames.contains(m.getName()));
            }
        }
        Constructor<?>[] constructors = SitterCircle.class.getDeclaredConstructors();
        is("one public constructor", constructors.length == 1
                && Modifier.isPublic(constructors[0].getModifiers())
                && constructors[0].getParameterCount() == 0);
        is("final", Modifier.isFinal(SitterCircle.class.getModifiers()));
        is("public", Modifier.isPublic(SitterCircle.class.getModifiers()));
    }

    private static void constants() {
        check.due("BAD", SitterCircle.BAD, -1);
        check.due("STATE", SitterCircle.STATE, -2);
        check.due("FULL", SitterCircle.FULL, -3);
        check.due("NONE", SitterCircle.NONE, -4);
        Set<String> open = new TreeSet<>();
        for (Field f : SitterCircle.class.getDeclaredFields()) {
            int m = f.getModifiers();
            if (!Modifier.isPrivate(m)) {
                open.add(f.getName());
            }
            is(f + " is no changing static", !Modifier.isStatic(m) || Modifier.isFinal(m));
        }
        is("the constants are the face's: " + open,
                open.equals(new TreeSet<>(Arrays.asList("BAD", "STATE", "FULL", "NONE"))));
    }

    private static void nestedClasses() {
        for (Class<?> c : SitterCircle.class.getDeclaredClasses()) {
            int m = c.getModifiers();
            is(c + " is static", Modifier.isStatic(m));
            is(c + " is hidden", !Modifier.isPublic(m) && !Modifier.isProtected(m));
            for (Method inside : c.getDeclaredMethods()) {
                is(inside + " bears no public method's name", !isOfTheFace(inside.getName()));
            }
            for (Field f : c.getDeclaredFields()) {
                is(f + " is no changing static",
                        !Modifier.isStatic(f.getModifiers()) || Modifier.isFinal(f.getModifiers()));
            }
        }
    }

    private static boolean isOfTheFace(String name) {
        for (String method : METHODS) {
            if (method.startsWith(name + "(")) {
                return true;
            }
        }
        return false;
    }

    private static void newObject() {
        SitterCircle x = new SitterCircle();
        for (int what = 0; what <= 9; what++) {
            check.due("new: count(" + what + ")", x.count(what), 0);
        }
        check.due("new: fault()", x.fault(), 0);
        check.due("new: unwind()", x.unwind(), SitterCircle.NONE);
        check.due("new: met()", x.met(), 0);
        check.due("new: why(0)", x.why(0), 0);
        check.due("new: why(1)", x.why(1), 0);
        check.due("new: evening()", x.evening(), 0);
        check.due("new: told(0, 0)", x.told(0, 0), SitterCircle.BAD);
        int[] laws = {0, SitterCircle.NONE, SitterCircle.NONE, 0, 0, SitterCircle.NONE};
        for (int what = 0; what < laws.length; what++) {
            check.due("new: rule(0, " + what + ")", x.rule(0, what), laws[what]);
            check.due("new: rule(2000, " + what + ")", x.rule(2000, what), laws[what]);
        }
        for (int k = 0; k < 4; k++) {
            check.due("new: lay(" + k + ", 0, 0)", x.lay(k, 0, 0), -11);
            check.due("new: offers(" + k + ", 0, 0, 0)", x.offers(k, 0, 0, 0), -11);
        }
        check.due("new: end(0)", x.end(0), 0);
    }
}
