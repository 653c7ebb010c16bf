import java.lang.reflect.InvocationTargetException;
import java.lang.reflect.Method;
import java.util.Arrays;
import java.util.Comparator;
import java.util.function.Consumer;
import java.util.function.IntConsumer;

/** What the tests of edges share: how they are run and named, and the valleys that they begin with. */
final class Edges {
    private Edges() {
    }

    /** Runs each test of a class that is named by Holds, and ends as Check does. */
    static void run(Class<?> tests) {
        Method[] methods = tests.getDeclaredMethods();
        Arrays.sort(methods, Comparator.comparing(Method::getName));
        for (Method method : methods) {
            Holds holds = method.getAnnotation(Holds.class);
            if (holds != null) {
                Check.within(nameOf(method, holds), () -> invoke(method));
            }
        }
        Check.end();
    }

    private static String nameOf(Method method, Holds holds) {
        return "promise " + Arrays.toString(holds.promise()) + " " + Arrays.toString(holds.sentence())
            + " (" + method.getDeclaringClass().getSimpleName() + "." + method.getName() + "): ";
    }

    private static void invoke(Method method) {
        try {
            method.setAccessible(true);
            method.invoke(null);
        } catch (InvocationTargetException thrown) {
            Check.broken(thrown.getCause());
        } catch (IllegalAccessException thrown) {
            Check.broken(thrown);
        }
    }

    /** The village 0 of 100 households and 10000 COINS, and the lamp 0 of it, which BURNS at each HOUR. */
    static NightValley withLamp(int place, int flux, int colour, int shield) {
        NightValley x = withVillage(100, 10000);
        addLamp(x, 0, place, flux, colour, shield);
        return x;
    }

    static NightValley withVillage(int households, int coins) {
        NightValley x = new NightValley();
        x.village(households, coins);
        return x;
    }

    /** Puts a lamp up that BURNS at each HOUR. */
    static int addLamp(NightValley x, int village, int place, int flux, int colour, int shield) {
        int lamp = x.lamp(village, place, flux, colour, shield);
        x.hours(lamp, 0, 0);
        return lamp;
    }

    static void addVillages(NightValley x, int count) {
        for (int i = 0; i < count; i++) {
            x.village(1, 0);
        }
    }

    static void addLamps(NightValley x, int village, int count) {
        for (int i = 0; i < count; i++) {
            x.lamp(village, 0, 1, NightValley.AMBER, 0);
        }
    }

    static void passTo(NightValley x, int time) {
        int now = x.time();
        while (now < time) {
            now = x.pass(Math.min(500, time - now));
        }
    }

    /** The first numbers below and above a range are refused, and the least and the greatest int. */
    static void refusesOutside(String call, Class<?> kind, int least, int most, IntConsumer made) {
        for (int number : new int[] {least - 1, most + 1, Integer.MIN_VALUE, Integer.MAX_VALUE}) {
            Check.refused(call + " of " + number, kind, () -> made.accept(number));
        }
    }

    static void refusesIndex(String call, int count, IntConsumer made) {
        refusesOutside(call, Check.INDEX, 0, count - 1, made);
    }

    static void refusesArgument(String call, int least, int most, IntConsumer made) {
        refusesOutside(call, Check.ARGUMENT, least, most, made);
    }

    static NightValley made(Consumer<NightValley> told) {
        NightValley x = new NightValley();
        told.accept(x);
        return x;
    }
}
