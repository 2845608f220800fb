import java.lang.reflect.Constructor;
import java.lang.reflect.Field;
import java.lang.reflect.Method;
import java.lang.reflect.Modifier;
import java.util.Arrays;
import java.util.Set;
import java.util.TreeSet;

/** The public face and its constants; nothing beside it is visible (LANGUAGE.md, rule 1). */
public final class FaceTest {
    private static final Due due = new Due();

    public static void main(String[] args) {
        constants();
        members();
        methods();
        insideClasses();
        due.end();
    }

    private static void constants() {
        due.is("UNKNOWN", NumberRows2.UNKNOWN, -101);
        due.is("OUTSIDE", NumberRows2.OUTSIDE, -102);
        due.is("STATE", NumberRows2.STATE, -103);
        due.is("ROOM", NumberRows2.ROOM, -104);
    }

    private static void members() {
        due.is("the class is public and final", NumberRows2.class.getModifiers(), Modifier.PUBLIC | Modifier.FINAL);
        Set<String> visible = new TreeSet<>();
        for (Field f : NumberRows2.class.getDeclaredFields()) {
            if (!Modifier.isPrivate(f.getModifiers())) {
                visible.add(f.toString());
            }
            if (Modifier.isStatic(f.getModifiers()) && !Modifier.isFinal(f.getModifiers())) {
                due.tell("static and not final: " + f);
            }
        }
        Set<String> wanted = new TreeSet<>();
        for (String name : new String[] {"UNKNOWN", "OUTSIDE", "STATE", "ROOM"}) {
            wanted.add("public static final int NumberRows2." + name);
        }
        same("fields", visible, wanted);
        Constructor<?>[] made = NumberRows2.class.getDeclaredConstructors();
        same("constructors", new TreeSet<>(Arrays.asList(Arrays.toString(made))),
            new TreeSet<>(Arrays.asList("[public NumberRows2()]")));
    }

    private static void methods() {
        Set<String> visible = new TreeSet<>();
        Set<String> publicNames = new TreeSet<>();
        for (Method m : NumberRows2.class.getDeclaredMethods()) {
            if (!Modifier.isPrivate(m.getModifiers())) {
                visible.add(m.toString());
                publicNames.add(m.getName());
            }
        }
        same("methods", visible, new TreeSet<>(Arrays.asList(
            "public int NumberRows2.block(int,long,long)",
            "public long NumberRows2.next(int,int)",
            "public int NumberRows2.letter(long,int) throws java.lang.ArrayIndexOutOfBoundsException",
            "public void NumberRows2.type(int)",
            "public long NumberRows2.read()",
            "public int NumberRows2.bar(long,long)",
            "public boolean NumberRows2.given(long)",
            "public long NumberRows2.old(long)",
            "public int NumberRows2.map(int,long,long)",
            "public long NumberRows2.named(int,long)")));
        for (Method m : NumberRows2.class.getDeclaredMethods()) {
            if (Modifier.isPrivate(m.getModifiers()) && publicNames.contains(m.getName())) {
                due.tell("a private method bears a public one's name: " + m);
            }
        }
    }

    private static void insideClasses() {
        for (Class<?> c : NumberRows2.class.getDeclaredClasses()) {
            int mods = c.getModifiers();
            if (!Modifier.isStatic(mods) || Modifier.isPublic(mods) || Modifier.isProtected(mods)) {
                due.tell("not static, or visible: " + c);
            }
        }
    }

    private static void same(String what, Set<String> got, Set<String> want) {
        if (!got.equals(want)) {
            due.tell(what + " are " + got + ", due are " + want);
        }
    }
}
