import java.lang.reflect.Constructor;
import java.lang.reflect.Field;
import java.lang.reflect.Member;
import java.lang.reflect.Method;
import java.lang.reflect.Modifier;
import java.util.Arrays;
import java.util.Set;
import java.util.TreeSet;

/** The public face of the document, and nothing beside it. */
public final class FaceTest {
    private static final Check CHECK = new Check("FaceTest");
    private static final String[] FACE = {
        "int sheet(int,int,int)", "int set(int,int,int)", "int copy(int,int,int,int,int)", "int drop(int)",
        "int feed(long,int)", "int rules()", "int fault()", "int hall(int,int)", "int book(int,int)",
        "int cancel(int,int)", "int told(int,int)", "int clash(int,int)", "int holding(int,int)",
        "int most(int,int,int,int)", "int funeral(int,int,int,int,int,int)", "int coin(int,int,int,int)",
        "int run(int,int,int)", "int meter(int,int,int,int)", "int give(int,int,int,int)", "int key(int,int,int)",
        "int look(int,int,int,int)", "int home(int,int)", "int meeting(int,int,int,int,int)", "int met(int,int)",
        "int day(int)", "int kind(int)", "int as(int,int)", "int ask(int,int)", "int trace(int)", "int count(int)",
        "int status()"};

    public static void main(String[] args) throws Exception {
        constants();
        members();
        classesInside();
        CHECK.end();
    }

    private static void constants() {
        CHECK.due("NONE", -1000000, VillageHalls.NONE);
        CHECK.due("BAD", -1000001, VillageHalls.BAD);
        CHECK.due("STATE", -1000002, VillageHalls.STATE);
        CHECK.due("FULL", -1000003, VillageHalls.FULL);
    }

    private static boolean seen(Member member) {
        return !Modifier.isPrivate(member.getModifiers()) && !member.isSynthetic();
    }

    private static void same(String what, Set<String> want, Set<String> got) {
        CHECK.due(what + ": due " + want + ", there are " + got, 1, want.equals(got) ? 1 : 0);
    }

    private static void members() {
        Class<?> type = VillageHalls.class;
        CHECK.due("public and final", Modifier.PUBLIC | Modifier.FINAL, type.getModifiers());
        Set<String> methods = new TreeSet<>();
        for (Method m : type.getDeclaredMethods()) {
            if (seen(m)) {
                String types = Arrays.toString(m.getParameterTypes()).replace(" ", "");
                methods.add(m.getReturnType() + " " + m.getName() + "(" + types.substring(1, types.length() - 1) + ")");
                CHECK.due(m + " is public alone", Modifier.PUBLIC, m.getModifiers());
                CHECK.due(m + " throws nothing", 0, m.getExceptionTypes().length);
            }
        }
        same("methods", new TreeSet<>(Arrays.asList(FACE)), methods);
        Set<String> fields = new TreeSet<>();
        for (Field f : type.getDeclaredFields()) {
            if (seen(f)) {
                fields.add(f.getType() + " " + f.getName());
                CHECK.due(f + " is a constant", Modifier.PUBLIC | Modifier.STATIC | Modifier.FINAL, f.getModifiers());
            }
        }
        same("constants", new TreeSet<>(Arrays.asList("int NONE", "int BAD", "int STATE", "int FULL")), fields);
        for (Constructor<?> c : type.getDeclaredConstructors()) {
            CHECK.due("the constructor is public", Modifier.PUBLIC, c.getModifiers());
            CHECK.due("and takes nothing", 0, c.getParameterCount());
        }
    }

    // Rules 1, 2, 5 and 11 of LANGUAGE.md, as far as they can be seen from outside.
    private static void classesInside() {
        Class<?>[] inside = VillageHalls.class.getDeclaredClasses();
        CHECK.due("twelve classes at most", 1, inside.length <= 12 ? 1 : 0);
        Set<String> face = new TreeSet<>();
        for (String m : FACE) {
            face.add(m.substring(4, m.indexOf('(')));
        }
        for (Class<?> c : inside) {
            CHECK.due(c + " is static", Modifier.STATIC, c.getModifiers() & Modifier.STATIC);
            CHECK.due(c + " is private", Modifier.PRIVATE, c.getModifiers() & Modifier.PRIVATE);
            int fields = 0;
            for (Field f : c.getDeclaredFields()) {
                boolean fixed = Modifier.isFinal(f.getModifiers());
                CHECK.due(f + " is final if static", 1, !Modifier.isStatic(f.getModifiers()) || fixed ? 1 : 0);
                fields += Modifier.isStatic(f.getModifiers()) ? 0 : 1;
            }
            CHECK.due(c + " has twenty fields at most", 1, fields <= 20 ? 1 : 0);
            for (Method m : c.getDeclaredMethods()) {
                CHECK.due(m + " has a name of its own", 0, face.contains(m.getName()) ? 1 : 0);
                CHECK.due(m + " takes seven at most", 1, m.getParameterCount() <= 7 ? 1 : 0);
            }
        }
        for (Method m : VillageHalls.class.getDeclaredMethods()) {
            if (!seen(m)) {
                CHECK.due(m + " has a name of its own", 0, face.contains(m.getName()) ? 1 : 0);
            }
        }
    }
}
