import java.io.IOException;
import java.lang.reflect.Constructor;
import java.lang.reflect.Field;
import java.lang.reflect.Method;
import java.lang.reflect.Modifier;
import java.nio.file.Files;
import java.nio.file.Path;
import java.util.ArrayList;
import java.util.Arrays;
import java.util.List;
import java.util.TreeSet;

/** The public face of the document, and those rules of LANGUAGE.md that can be looked up. */
public final class FaceTest {
    private static final String FACE = "about(int,int)int at(int,int,int)int blit(int,int,int,int)boolean "
        + "bytesBy(int,int)int credit(int,int)int cut(int)boolean fill(int,int,int,int,int)boolean frame()int "
        + "join(int)boolean onLine(int,int)int poison(int,int,int)boolean pump(int)int shade(int,int,int,int)boolean "
        + "shown(int)int";

    public static void main(String[] args) throws IOException {
        face();
        credit();
        nested();
        source();
        room();
        Check.end();
    }

    private static void same(String what, Object got, Object want) {
        Check.yes(what + " is " + got + ", due is " + want, got.equals(want));
    }

    private static String told(Method m) {
        List<String> types = new ArrayList<>();
        for (Class<?> type : m.getParameterTypes()) {
            types.add(type.getName());
        }
        return m.getName() + "(" + String.join(",", types) + ")" + m.getReturnType().getName();
    }

    private static void face() {
        TreeSet<String> open = new TreeSet<>();
        TreeSet<String> openNames = new TreeSet<>();
        TreeSet<String> closedNames = new TreeSet<>();
        for (Method m : TileScreen.class.getDeclaredMethods()) {
            if (Modifier.isPublic(m.getModifiers())) {
                open.add(told(m));
                openNames.add(m.getName());
                Check.no(m + " is static", Modifier.isStatic(m.getModifiers()));
            } else {
                Check.yes(m + " is private", Modifier.isPrivate(m.getModifiers()));
                closedNames.add(m.getName());
            }
        }
        same("face", String.join(" ", open), FACE);
        closedNames.retainAll(openNames);
        same("private names that are public ones", closedNames.toString(), "[]");
        for (Field f : TileScreen.class.getDeclaredFields()) {
            boolean isOpen = f.getName().equals("NONE");
            same(f.getName() + " is public", Modifier.isPublic(f.getModifiers()), isOpen);
            same(f.getName() + " is private", Modifier.isPrivate(f.getModifiers()), !isOpen);
        }
        Constructor<?>[] constructors = TileScreen.class.getDeclaredConstructors();
        same("constructors", constructors.length, 1);
        same("its parameters", constructors[0].getParameterCount(), 0);
        Check.yes("it is public", Modifier.isPublic(constructors[0].getModifiers()));
        same("the class", Modifier.toString(TileScreen.class.getModifiers()), "public final");
    }

    private static void credit() {
        for (Method m : TileScreen.class.getDeclaredMethods()) {
            String want = m.getName().equals("credit")
                ? "[class java.lang.IllegalArgumentException, class java.lang.IllegalStateException]" : "[]";
            same(m.getName() + " throws", Arrays.toString(m.getExceptionTypes()), want);
        }
    }

    private static void nested() {
        Class<?>[] classes = TileScreen.class.getDeclaredClasses();
        Check.yes("at most twelve classes", classes.length + 1 <= 12);
        for (Class<?> c : classes) {
            int modifiers = c.getModifiers();
            Check.yes(c + " is static", Modifier.isStatic(modifiers));
            Check.no(c + " is public", Modifier.isPublic(modifiers) || Modifier.isProtected(modifiers));
            for (Method m : c.getDeclaredMethods()) {
                Check.yes(m + " has at most seven parameters", m.getParameterCount() <= 7);
                Check.no(m + " bears a name of the face", FACE.contains(m.getName() + "("));
            }
            int fields = 0;
            for (Field f : c.getDeclaredFields()) {
                fields += Modifier.isStatic(f.getModifiers()) ? 0 : 1;
                Check.yes(f + " is final if static", !Modifier.isStatic(f.getModifiers()) || Modifier.isFinal(f.getModifiers()));
            }
            Check.yes(c + " has at most twenty fields", fields <= 20);
        }
    }

    private static void source() throws IOException {
        String text = Files.readString(Path.of("src/main/java/TileScreen.java"));
        String code = text.replaceAll("(?s)/\\*.*?\\*/", "").replaceAll("//[^\n]*", "");
        for (String word : new String[] {"import", "package", "synchronized", "assert", "finally", "try", "null", "Thread", "Random"}) {
            Check.no("the source has " + word, code.matches("(?s).*\\b" + word + "\\b.*"));
        }
        for (String sign : new String[] {"->", "::", "@", "System.nano", "System.current"}) {
            Check.no("the source has " + sign, code.contains(sign));
        }
        Check.yes("only credit throws", code.split("\\bthrow\\b", -1).length == 3);
    }

    /** What 512 calls make must fit the room many times over. */
    private static void room() {
        com.sun.management.ThreadMXBean threads =
            (com.sun.management.ThreadMXBean) java.lang.management.ManagementFactory.getThreadMXBean();
        long id = Thread.currentThread().getId();
        dearCalls(new TileScreen());
        TileScreen s = new TileScreen();
        long before = threads.getThreadAllocatedBytes(id);
        dearCalls(s);
        long made = threads.getThreadAllocatedBytes(id) - before;
        Check.yes("512 calls made " + made + " bytes", made < 100000);
    }

    /** 510 calls. */
    private static void dearCalls(TileScreen s) {
        for (int v = 0; v < 3; v++) {
            s.join(v);
            s.credit(v, 1000000);
        }
        for (int k = 0; k < 56; k++) {
            s.shade(k % 48, k % 8, 100 * k, 7);
            s.blit(0, 64 * 40 + 56, 8, 8);
            s.frame();
            for (int v = 0; v < 3; v++) {
                s.poison(v, 1000, k);
                s.pump(v);
            }
        }
    }
}
