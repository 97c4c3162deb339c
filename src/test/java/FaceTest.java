import java.lang.reflect.Constructor;
import java.lang.reflect.Field;
import java.lang.reflect.Method;
import java.lang.reflect.Modifier;
import java.util.ArrayList;
import java.util.Arrays;
import java.util.List;
import java.util.TreeSet;

/** The public face, its constants, and rule 1 of LANGUAGE.md: nothing else can be seen. */
public final class FaceTest {
    private static final String FACE = "int field(int,int); int renew(int,int,int); int absent(int,boolean);"
        + "int reach(int,int,int); int reachOf(int,int); int hours(int); int rule(int); int pass(int); int of(int,int);"
        + "int feed(int); int read(); int turn(int); int lag(int); int line(int); int who(int); int shared(int,int);"
        + "int told(int); int trade(int,int,int); int undoTrade(); int tradeOf(int,int); int chain(int);"
        + "int over(int,int,int); int uneven(int); int evenest(int); int see(int,int); int fits(int);"
        + "long odds(int,int); long mean(int); int plan(int,int); int ends(int); int book(int,int); int looked();"
        + "int judge(int,int); int image(); int undo(); int count(int); int tape(int,int,int);"
        + "int item(int,int,long); long peek(int,int); int shift(int,int,int,int,int)";

    public static void main(String[] args) {
        Due due = new Due();
        Class<CanalTurns> face = CanalTurns.class;
        due.holds("public and final", Modifier.isPublic(face.getModifiers()) && Modifier.isFinal(face.getModifiers()));
        due.is("NONE", CanalTurns.NONE, -1);
        due.is("BAD", CanalTurns.BAD, -2);
        due.is("STATE", CanalTurns.STATE, -3);
        due.is("FULL", CanalTurns.FULL, -4);
        due.is("NO", CanalTurns.NO, Long.MIN_VALUE);
        methods(due, face);
        fields(due, face);
        Constructor<?>[] made = face.getDeclaredConstructors();
        due.is("constructors", made.length, 1);
        due.is("its parameters", made[0].getParameterCount(), 0);
        due.holds("it is public", Modifier.isPublic(made[0].getModifiers()));
        nested(due, face);
        due.end();
    }

    private static void methods(Due due, Class<?> face) {
        TreeSet<String> want = new TreeSet<>();
        for (String call : FACE.split(";")) {
            want.add(call.trim());
        }
        TreeSet<String> seen = new TreeSet<>();
        List<String> names = new ArrayList<>();
        for (Method m : face.getDeclaredMethods()) {
            if (Modifier.isPrivate(m.getModifiers())) {
                names.add(m.getName());
                continue;
            }
            String parameters = Arrays.toString(m.getParameterTypes()).replaceAll("[\\[\\] ]", "");
            seen.add(m.getReturnType() + " " + m.getName() + "(" + parameters + ")");
            due.holds(m.getName() + " is public, and no more", m.getModifiers() == Modifier.PUBLIC);
        }
        due.holds("the calls are " + seen, seen.equals(want));
        for (String call : want) {
            String name = call.substring(call.indexOf(' ') + 1, call.indexOf('('));
            due.holds("a private method is named " + name, !names.contains(name));
        }
    }

    private static void fields(Due due, Class<?> face) {
        TreeSet<String> seen = new TreeSet<>();
        for (Field f : face.getDeclaredFields()) {
            int m = f.getModifiers();
            if (!Modifier.isPrivate(m)) {
                seen.add(f.getType() + " " + f.getName());
                due.is("modifiers of " + f.getName(), m, Modifier.PUBLIC | Modifier.STATIC | Modifier.FINAL);
            }
            due.holds(f.getName() + ": a static field is final", !Modifier.isStatic(m) || Modifier.isFinal(m));
        }
        due.holds("the constants are " + seen,
            seen.equals(new TreeSet<>(List.of("int BAD", "int FULL", "int NONE", "int STATE", "long NO"))));
    }

    private static void nested(Due due, Class<?> face) {
        List<String> calls = new ArrayList<>();
        for (Method m : face.getDeclaredMethods()) {
            if (Modifier.isPublic(m.getModifiers())) {
                calls.add(m.getName());
            }
        }
        for (Class<?> inner : face.getDeclaredClasses()) {
            due.holds(inner + " is static", Modifier.isStatic(inner.getModifiers()));
            due.holds(inner + " is not public", !Modifier.isPublic(inner.getModifiers()));
            due.holds(inner + " has some twenty fields", inner.getDeclaredFields().length <= 20);
            for (Method m : inner.getDeclaredMethods()) {
                due.holds(m + " bears the name of a call", !calls.contains(m.getName()));
                due.holds(m + " has at most seven parameters", m.getParameterCount() <= 7);
            }
        }
        due.holds("some twelve classes", face.getDeclaredClasses().length < 12);
    }
}
