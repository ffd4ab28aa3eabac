import java.lang.reflect.Constructor;
import java.lang.reflect.Field;
import java.lang.reflect.Method;
import java.lang.reflect.Modifier;
import java.util.Arrays;
import java.util.Set;
import java.util.TreeSet;

/** The public face is the document's, and what else the class has is private (LANGUAGE.md, rules 1 and 5). */
public final class Face {
    private static final Set<String> METHODS = new TreeSet<>(Arrays.asList(
        "boolean poke[int, int]", "boolean set[int, int]", "int code[int]", "int load[int, boolean]",
        "int store[int, int, boolean]", "int find[int, int, boolean]", "int map[int, int, int, boolean]",
        "int forget[boolean]", "int special[int]", "int word[int]", "int look[int]"));

    public static void main(String[] args) throws Exception {
        Checks c = new Checks();
        c.due("public final", SoftMaps.class.getModifiers(), Modifier.PUBLIC | Modifier.FINAL);
        methods(c);
        fields(c);
        none(c);
        Constructor<?>[] constructors = SoftMaps.class.getDeclaredConstructors();
        c.due("constructors", constructors.length, 1);
        c.due("its modifiers", constructors[0].getModifiers(), Modifier.PUBLIC);
        c.due("its parameters", constructors[0].getParameterCount(), 0);
        for (Class<?> inside : SoftMaps.class.getDeclaredClasses()) {
            int mod = inside.getModifiers();
            c.due(inside + " is static", Modifier.isStatic(mod), true);
            c.due(inside + " is open", Modifier.isPublic(mod) || Modifier.isProtected(mod), false);
        }
        c.end();
    }

    private static void methods(Checks c) {
        Set<String> open = new TreeSet<>();
        Set<String> openNames = new TreeSet<>();
        for (Method m : SoftMaps.class.getDeclaredMethods()) {
            if (!Modifier.isPrivate(m.getModifiers())) {
                c.due(m + ": modifiers", m.getModifiers(), Modifier.PUBLIC);
                open.add(m.getReturnType() + " " + m.getName() + Arrays.toString(m.getParameterTypes()));
                openNames.add(m.getName());
            }
        }
        c.due("the methods are " + open + ", which", open.equals(METHODS), true);
        for (Method m : SoftMaps.class.getDeclaredMethods()) {
            if (Modifier.isPrivate(m.getModifiers())) {
                c.due(m + " bears a public name", openNames.contains(m.getName()), false);
            }
        }
    }

    private static void fields(Checks c) {
        for (Field f : SoftMaps.class.getDeclaredFields()) {
            int mod = f.getModifiers();
            c.due(f + " is private", Modifier.isPrivate(mod), !f.getName().equals("NONE"));
            c.due(f + " is final if static", !Modifier.isStatic(mod) || Modifier.isFinal(mod), true);
        }
    }

    private static void none(Checks c) throws Exception {
        Field none = SoftMaps.class.getDeclaredField("NONE");
        c.due("NONE's modifiers", none.getModifiers(), Modifier.PUBLIC | Modifier.STATIC | Modifier.FINAL);
        c.due("NONE is an int", none.getType() == int.class, true);
        c.due("NONE", SoftMaps.NONE, -1);
    }
}
