import java.lang.reflect.Constructor;
import java.lang.reflect.Field;
import java.lang.reflect.Method;
import java.lang.reflect.Modifier;
import java.util.Arrays;
import java.util.Set;
import java.util.TreeSet;

/** The public face of the document, and what rules 1, 2, 5 and 11 of LANGUAGE.md say of the made classes; the other rules are looked at by RulesTest. */
public final class LanguageTest {
    private static final String[] FACE = {
        "int straw(int,int)", "int straws(int,int,int)", "int mend(int,int,int)", "int of(int,int)", "int feed(int)", "int law()", "int wants(int,int,int)",
        "int glass(int,int,int)", "int level(int,int)", "int empty()", "int more(int,int)", "int turns(int,int,int)", "int mark(int)", "int halves(int,int)",
        "int reachFor(int,int,int)", "int slow(int,int)", "int both(int,int)", "int holeFor(int,int,int)", "int stopFor(int)", "int judge(int)", "int who(int,int)",
        "int since(int,int)", "int drawn(int,int,int)", "int second()", "int fill(int)", "int ice(int)", "int led(int,int)", "int image()", "int back()", "int undo()",
        "int redo()", "int body(int)", "int act(int,int,int)", "int trace(int)", "int keep(int,int)", "int row(int,int,int)", "int put(int,int,long)",
        "long element(int,int)", "int shift(int,int,int,int,int)", "int taken(int,int)", "int count(int)"};

    private static int wrong = 0;

    private static void must(boolean holds, String what) {
        if (!holds) {
            wrong++;
            System.out.println(what);
        }
    }

    public static void main(String[] args) {
        face();
        classes();
        System.out.println(wrong == 0 ? "the face and the rules hold" : wrong + " faults");
        if (wrong != 0) {
            System.exit(1);
        }
    }

    private static String told(Method m) {
        StringBuilder s = new StringBuilder(m.getReturnType().getSimpleName()).append(' ').append(m.getName()).append('(');
        for (int i = 0; i < m.getParameterCount(); i++) {
            s.append(i > 0 ? "," : "").append(m.getParameterTypes()[i].getSimpleName());
        }
        return s.append(')').toString();
    }

    private static void face() {
        Set<String> wanted = new TreeSet<>(Arrays.asList(FACE));
        Set<String> found = new TreeSet<>();
        must(Modifier.isPublic(TwoStraws.class.getModifiers()) && Modifier.isFinal(TwoStraws.class.getModifiers()), "public and final");
        for (Method m : TwoStraws.class.getDeclaredMethods()) {
            if (Modifier.isPublic(m.getModifiers())) {
                found.add(told(m));
            } else {
                must(Modifier.isPrivate(m.getModifiers()), m.getName() + " is neither public nor private");
                must(!names().contains(m.getName()), "a private method is named as a public one: " + m.getName());
            }
        }
        must(found.equals(wanted), "the face is " + found);
        Constructor<?>[] made = TwoStraws.class.getDeclaredConstructors();
        must(made.length == 1 && made[0].getParameterCount() == 0 && Modifier.isPublic(made[0].getModifiers()), "one public constructor");
        Set<String> constants = new TreeSet<>();
        for (Field f : TwoStraws.class.getDeclaredFields()) {
            if (Modifier.isPublic(f.getModifiers())) {
                constants.add(f.getName());
                must(f.getType() == int.class && Modifier.isStatic(f.getModifiers()) && Modifier.isFinal(f.getModifiers()), f.getName() + " is no int constant");
            } else {
                must(Modifier.isPrivate(f.getModifiers()), f.getName() + " is neither public nor private");
            }
        }
        must(constants.equals(new TreeSet<>(Arrays.asList("BAD", "NOT", "FULL", "STATE", "VOID"))), "the constants are " + constants);
    }

    private static Set<String> names() {
        Set<String> names = new TreeSet<>();
        for (String one : FACE) {
            names.add(one.substring(one.indexOf(' ') + 1, one.indexOf('(')));
        }
        return names;
    }

    private static void classes() {
        Set<String> names = names();
        Class<?>[] inside = TwoStraws.class.getDeclaredClasses();
        must(inside.length < 12, "more than twelve classes");
        for (Class<?> c : inside) {
            must(Modifier.isStatic(c.getModifiers()), c + " is not static");
            must(!Modifier.isPublic(c.getModifiers()) && !Modifier.isProtected(c.getModifiers()), c + " is seen outside");
            for (Method m : c.getDeclaredMethods()) {
                must(!names.contains(m.getName()), c + " has a method named as a public one: " + m.getName());
            }
            limits(c);
        }
        limits(TwoStraws.class);
    }

    private static void limits(Class<?> c) {
        int fields = 0;
        for (Field f : c.getDeclaredFields()) {
            if (Modifier.isStatic(f.getModifiers())) {
                must(Modifier.isFinal(f.getModifiers()), f + " is static and not final");
            } else {
                fields++;
            }
        }
        must(fields <= 20, c + " has " + fields + " fields");
        for (Method m : c.getDeclaredMethods()) {
            must(m.getParameterCount() <= 7, m + " has too many parameters");
            must(!m.isSynthetic(), m + " is made by the compiler");
        }
    }
}
