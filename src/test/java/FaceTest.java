import java.lang.reflect.Constructor;
import java.lang.reflect.Field;
import java.lang.reflect.Method;
import java.lang.reflect.Modifier;
import java.util.Arrays;
import java.util.HashMap;
import java.util.Map;
import java.util.Set;
import java.util.TreeSet;

/** The face of the class, as the document has it, and rule 1 of LANGUAGE.md: nothing else can be seen. */
final class FaceTest {
    private static final String INDEX = "IndexOutOfBoundsException";
    private static final String ARGUMENT = "IllegalArgumentException";
    private static final String STATE = "IllegalStateException";

    private static final String[] FACE = {
        "boolean ridge(int, boolean) " + INDEX,
        "int zone(int, int) " + INDEX,
        "void law(int, int, int, int) " + INDEX + " " + ARGUMENT,
        "int feast(int, int) " + INDEX + " " + ARGUMENT,
        "int air(int) " + ARGUMENT,
        "int pass(int) " + ARGUMENT + " " + STATE,
        "int village(int, int) " + ARGUMENT + " " + STATE,
        "int lamp(int, int, int, int, int) " + INDEX + " " + ARGUMENT + " " + STATE,
        "void hours(int, int, int) " + INDEX + " " + ARGUMENT + " " + STATE,
        "boolean exempt(int, boolean) " + INDEX,
        "int outage(int, int) " + INDEX + " " + ARGUMENT,
        "int vote(int, int, int, int, int) " + INDEX + " " + ARGUMENT + " " + STATE,
        "int inspect(int) " + INDEX,
        "int meter(int, int, int) " + INDEX + " " + ARGUMENT + " " + STATE,
        "int read(int) " + INDEX,
        "int tell(int, int) " + INDEX + " " + ARGUMENT,
        "boolean audit(int) " + ARGUMENT,
        "int satellite(int, int) " + ARGUMENT + " " + STATE,
        "int time()",
        "int ofLamp(int, int) " + INDEX + " " + ARGUMENT,
        "int ofVillage(int, int) " + INDEX + " " + ARGUMENT,
        "int gives(int, int) " + INDEX,
        "int glow(int) " + INDEX,
        "int glowFrom(int, int) " + INDEX + " " + ARGUMENT,
        "int ground(int) " + INDEX,
        "int way(int, int, int) " + INDEX + " " + ARGUMENT,
        "int ofReading(int, int, int) " + INDEX + " " + ARGUMENT,
        "long trend(int) " + INDEX + " " + STATE,
        "boolean isHeld()",
        "int trails(int, int) " + ARGUMENT,
        "int culprit(int) " + INDEX,
        "int plan(int, int, int) " + INDEX + " " + ARGUMENT,
    };

    public static void main(String[] args) throws ReflectiveOperationException {
        constants();
        methods();
        constructors();
        innerClasses();
        Check.end();
    }

    private static void constants() throws ReflectiveOperationException {
        Map<String, Integer> due = new HashMap<>();
        String[] names = {"CLEAR", "DUSTY", "CLOUDY", "AMBER", "WARM", "COLD", "EAST", "WEST", "SOUTH", "NORTH", "OVERHEAD"};
        int[] values = {0, 1, 2, 0, 1, 2, 0, 1, 2, 3, 4};
        for (int i = 0; i < names.length; i++) {
            due.put(names[i], values[i]);
        }
        due.put("NONE", -1);
        int seen = 0;
        for (Field field : NightValley.class.getDeclaredFields()) {
            if (!Modifier.isPrivate(field.getModifiers())) {
                seen++;
                Check.due(field.getName() + " is of the face", due.containsKey(field.getName()), true);
                Check.due(field.getName() + " is a constant", field.getModifiers(), Modifier.PUBLIC | Modifier.STATIC | Modifier.FINAL);
                Check.due(field.getName(), field.getInt(null), due.getOrDefault(field.getName(), -99));
            }
        }
        Check.due("constants", seen, due.size());
    }

    private static String signature(Method method) {
        StringBuilder text = new StringBuilder(method.getReturnType().getSimpleName() + " " + method.getName() + "(");
        String separator = "";
        for (Class<?> type : method.getParameterTypes()) {
            text.append(separator).append(type.getSimpleName());
            separator = ", ";
        }
        text.append(")");
        for (Class<?> type : method.getExceptionTypes()) {
            text.append(" ").append(type.getSimpleName());
        }
        return text.toString();
    }

    private static void methods() {
        Set<String> due = new TreeSet<>(Arrays.asList(FACE));
        Set<String> names = new TreeSet<>();
        for (Method method : NightValley.class.getDeclaredMethods()) {
            if (!Modifier.isPrivate(method.getModifiers())) {
                Check.due(signature(method) + " is of the face", due.remove(signature(method)), true);
                Check.due(method.getName() + " is public alone", method.getModifiers(), Modifier.PUBLIC);
                names.add(method.getName());
            }
        }
        Check.due("missing: " + due, due.size(), 0);
        for (Method method : NightValley.class.getDeclaredMethods()) {
            if (Modifier.isPrivate(method.getModifiers())) {
                Check.due(method.getName() + " bears the name of a public one", names.contains(method.getName()), false);
            }
        }
    }

    private static void constructors() {
        Check.due("public and final", NightValley.class.getModifiers(), Modifier.PUBLIC | Modifier.FINAL);
        Constructor<?>[] all = NightValley.class.getDeclaredConstructors();
        Check.due("constructors", all.length, 1);
        Check.due("its arguments", all[0].getParameterCount(), 0);
        Check.due("it is public", all[0].getModifiers(), Modifier.PUBLIC);
    }

    private static void innerClasses() {
        Class<?>[] inner = NightValley.class.getDeclaredClasses();
        Check.due("at most twelve classes", inner.length < 12, true);
        for (Class<?> one : inner) {
            int fields = 0;
            for (Field field : one.getDeclaredFields()) {
                fields += Modifier.isStatic(field.getModifiers()) ? 0 : 1;
            }
            Check.due(one.getName() + " has at most twenty fields", fields <= 20, true);
            Check.due(one.getName() + " is static", Modifier.isStatic(one.getModifiers()), true);
        }
    }
}
