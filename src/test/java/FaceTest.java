import java.lang.reflect.Constructor;
import java.lang.reflect.Field;
import java.lang.reflect.Method;
import java.lang.reflect.Modifier;
import java.util.Arrays;
import java.util.HashSet;
import java.util.Set;
import java.util.TreeSet;

/** The constants, and that the class shows what the document prints and nothing else. */
final class FaceTest {
    private static final String[] METHODS = {
        "public int setRaw(int,int,int) throws IndexOutOfBoundsException,IllegalArgumentException",
        "public int press(int,int,int) throws IndexOutOfBoundsException,IllegalArgumentException",
        "public int release()",
        "public int calibrate()",
        "public int set(int,int) throws IndexOutOfBoundsException,IllegalArgumentException",
        "public int scan()",
        "public int appendText(int) throws IllegalArgumentException,IllegalStateException",
        "public int clearText()",
        "public int errorPosition()",
        "public int runText() throws IllegalStateException",
        "public int undo() throws IllegalStateException",
        "public int raw(int,int) throws IndexOutOfBoundsException",
        "public int signal(int,int) throws IndexOutOfBoundsException",
        "public int regionSize(int,int) throws IndexOutOfBoundsException",
        "public int regionKind(int,int) throws IndexOutOfBoundsException",
        "public int regions(int) throws IllegalArgumentException",
        "public int setting(int) throws IndexOutOfBoundsException",
        "public int contacts()",
        "public int contact(int,int) throws IndexOutOfBoundsException,IllegalArgumentException",
        "public boolean isDown(int) throws IndexOutOfBoundsException",
        "public int track(int,int) throws IndexOutOfBoundsException,IllegalArgumentException",
        "public int squaredDistance(int,int) throws IndexOutOfBoundsException",
        "public int match(int) throws IndexOutOfBoundsException",
        "public int matchingCost()",
        "public int downIfScanned()",
        "public int frames()",
        "public int downs()",
        "public int ups()",
        "public float meanSignal()",
        "public int savedStates()",
        "public int textLength()",
    };
    private static final String[] CONSTANTS = {
        "NONE", "THRESHOLD", "PALM", "SHARP", "GATE", "GRACE", "FINGER", "PALM_REGION", "WATER",
    };

    public static void main(String[] args) {
        constants();
        members();
        privateNames();
        Check.end();
    }

    private static void constants() {
        Check.same("NONE", TouchTracker.NONE, -1);
        Check.same("THRESHOLD", TouchTracker.THRESHOLD, 0);
        Check.same("PALM", TouchTracker.PALM, 1);
        Check.same("SHARP", TouchTracker.SHARP, 2);
        Check.same("GATE", TouchTracker.GATE, 3);
        Check.same("GRACE", TouchTracker.GRACE, 4);
        Check.same("FINGER", TouchTracker.FINGER, 0);
        Check.same("PALM_REGION", TouchTracker.PALM_REGION, 1);
        Check.same("WATER", TouchTracker.WATER, 2);
    }

    private static void members() {
        Class<?> face = TouchTracker.class;
        Check.same("the modifiers", face.getModifiers(), Modifier.PUBLIC | Modifier.FINAL);
        Set<String> shown = new TreeSet<>();
        for (Method method : face.getDeclaredMethods()) {
            if (!Modifier.isPrivate(method.getModifiers())) {
                shown.add(method.toString().replace("TouchTracker.", "").replace("java.lang.", ""));
            }
        }
        Check.same("the methods", shown.toString(), new TreeSet<>(Arrays.asList(METHODS)).toString());
        shown.clear();
        for (Field field : face.getDeclaredFields()) {
            if (!Modifier.isPrivate(field.getModifiers())) {
                shown.add(field.getName());
                Check.same(field.getName(), field.getModifiers(), Modifier.PUBLIC | Modifier.STATIC | Modifier.FINAL);
            }
        }
        Check.same("the fields", shown.toString(), new TreeSet<>(Arrays.asList(CONSTANTS)).toString());
        Constructor<?>[] constructors = face.getDeclaredConstructors();
        Check.same("the number of constructors", constructors.length, 1);
        Check.same("the constructor", constructors[0].toString(), "public TouchTracker()");
    }

    /** No private method may bear the name of a public one, and no static field may be changed. */
    private static void privateNames() {
        Set<String> names = new HashSet<>();
        for (String method : METHODS) {
            names.add(method.substring(0, method.indexOf('(')).replaceAll(".* ", ""));
        }
        inspect(TouchTracker.class, names);
        Class<?>[] inside = TouchTracker.class.getDeclaredClasses();
        Check.yes("there are at most twelve classes", inside.length + 1 <= 12);
        for (Class<?> own : inside) {
            Check.yes(own + " is static and not public",
                    Modifier.isStatic(own.getModifiers()) && !Modifier.isPublic(own.getModifiers()));
            inspect(own, names);
        }
    }

    private static void inspect(Class<?> own, Set<String> names) {
        for (Method method : own.getDeclaredMethods()) {
            boolean face = own == TouchTracker.class && Modifier.isPublic(method.getModifiers());
            Check.yes(method + " has a name of its own", face || !names.contains(method.getName()));
            Check.yes(method + " has at most seven parameters", method.getParameterCount() <= 7);
        }
        for (Field field : own.getDeclaredFields()) {
            Check.yes(field + " is final if it is static",
                    !Modifier.isStatic(field.getModifiers()) || Modifier.isFinal(field.getModifiers()));
        }
    }
}
