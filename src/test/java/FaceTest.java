import java.lang.reflect.Constructor;
import java.lang.reflect.Field;
import java.lang.reflect.Method;
import java.lang.reflect.Modifier;
import java.util.TreeSet;

/** The public face is the document's, and nothing else can be seen from outside. */
public final class FaceTest {
    private static final String[] FACE = {
        "boolean deliver(int) IndexOutOfBoundsException",
        "boolean isAtRest()",
        "boolean move(int,int) IndexOutOfBoundsException IllegalStateException",
        "int NONE",
        "int astray()",
        "int drop(int) IndexOutOfBoundsException",
        "int fail(int) IndexOutOfBoundsException IllegalStateException UnsupportedOperationException",
        "int hang(int,int) IndexOutOfBoundsException IllegalArgumentException IllegalStateException"
                + " UnsupportedOperationException",
        "int included(int,int) IndexOutOfBoundsException",
        "int letter(int,int) IndexOutOfBoundsException IllegalArgumentException",
        "int letters()",
        "int marked(int) IndexOutOfBoundsException",
        "int newest(int) IndexOutOfBoundsException",
        "int office(int,int) IndexOutOfBoundsException IllegalArgumentException",
        "int resend(int) IndexOutOfBoundsException IllegalStateException",
        "int revive(int) IndexOutOfBoundsException IllegalStateException",
        "int seats(int,int,int,int) IndexOutOfBoundsException IllegalArgumentException",
        "int through(int,int) IndexOutOfBoundsException",
        "int twin(int) IndexOutOfBoundsException IllegalStateException",
        "int version(int,int,int,int) IndexOutOfBoundsException IllegalArgumentException"
                + " UnsupportedOperationException",
        "int votes(int,int) IndexOutOfBoundsException IllegalArgumentException",
        "long held(int,int,int) IndexOutOfBoundsException",
        "long sum(int,int) IndexOutOfBoundsException",
        "new()",
        "void precinct(int,int,int) IndexOutOfBoundsException IllegalArgumentException"
                + " IllegalStateException",
    };

    public static void main(String[] args) {
        Due due = new Due();
        due.part("the face");
        due.is("members", String.join("\n", seen()), String.join("\n", FACE));
        due.is("NONE", CountHouse.NONE, -1);
        due.is("the class is public and final", CountHouse.class.getModifiers(),
                Modifier.PUBLIC | Modifier.FINAL);
        due.is("private methods named as public ones", hiddenNamesakes(), 0);
        due.end();
    }

    private static TreeSet<String> seen() {
        TreeSet<String> seen = new TreeSet<>();
        for (Constructor<?> c : CountHouse.class.getDeclaredConstructors()) {
            if (!Modifier.isPrivate(c.getModifiers())) {
                seen.add("new" + types(c.getParameterTypes(), "(", ",", ")")
                        + types(c.getExceptionTypes(), " ", " ", ""));
            }
        }
        for (Field f : CountHouse.class.getDeclaredFields()) {
            if (!Modifier.isPrivate(f.getModifiers())) {
                seen.add(f.getType().getSimpleName() + " " + f.getName());
            }
        }
        for (Method m : CountHouse.class.getDeclaredMethods()) {
            if (!Modifier.isPrivate(m.getModifiers())) {
                seen.add(m.getReturnType().getSimpleName() + " " + m.getName()
                        + types(m.getParameterTypes(), "(", ",", ")")
                        + types(m.getExceptionTypes(), " ", " ", ""));
            }
        }
        return seen;
    }

    private static String types(Class<?>[] types, String open, String between, String close) {
        if (types.length == 0 && close.isEmpty()) {
            return "";
        }
        StringBuilder text = new StringBuilder(open);
        for (int i = 0; i < types.length; i++) {
            text.append(i == 0 ? "" : between).append(types[i].getSimpleName());
        }
        return text.append(close).toString();
    }

    private static int hiddenNamesakes() {
        TreeSet<String> open = new TreeSet<>();
        for (Method m : CountHouse.class.getMethods()) {
            open.add(m.getName());
        }
        int count = 0;
        for (Method m : CountHouse.class.getDeclaredMethods()) {
            if (Modifier.isPrivate(m.getModifiers()) && open.contains(m.getName())) {
                count++;
            }
        }
        return count;
    }
}
