import java.lang.reflect.InvocationTargetException;
import java.lang.reflect.Method;
import java.util.ArrayList;
import java.util.Arrays;
import java.util.Comparator;
import java.util.List;

/** Long runs of calls, the same ones each time, on the program and on the Reference beside it. */
public final class ReferenceTest {
    private static final int RUNS = 300;
    private static final int CALLS = 80;
    private static final List<String> SLOW = List.of("digest", "bestValue");

    private static long seed = 20261119;

    private ReferenceTest() {
    }

    public static void main(String[] args) {
        List<Method> face = new ArrayList<>(List.of(Reference.class.getDeclaredMethods()));
        face.removeIf(method -> !java.lang.reflect.Modifier.isPublic(method.getModifiers()));
        face.sort(Comparator.comparing(Method::getName));
        for (int run = 0; run < RUNS; run++) {
            run(run, face);
        }
        Check.finish("ReferenceTest");
    }

    private static int below(int bound) {
        seed = seed * 6364136223846793005L + 1442695040888963407L;
        return (int) Math.floorMod(seed >>> 33, (long) bound);
    }

    private static void run(int run, List<Method> face) {
        StampVendor program = new StampVendor();
        Reference reference = new Reference();
        // A small run has few stamps of small values, so that sums and stocks collide more often.
        boolean small = run % 2 == 0;
        StringBuilder told = new StringBuilder("run " + run);
        for (int call = 0; call < CALLS; call++) {
            Method method = pick(face, call, reference);
            Object[] arguments = new Object[method.getParameterCount()];
            for (int i = 0; i < arguments.length; i++) {
                arguments[i] = argument(method.getName(), i, small);
            }
            told.append(' ').append(method.getName()).append(Arrays.toString(arguments));
            Check.due(told.toString(), answer(method, reference, arguments), answer(twin(method), program, arguments));
        }
        Check.due(told + " in the end", shown(Reference.of(program)), shown(reference));
    }

    private static Method pick(List<Method> face, int call, Reference reference) {
        String wanted = call < 6 || below(12) == 0 ? "addStamp" : below(7) == 0 ? "vend" : "";
        for (Method method : face) {
            if (method.getName().equals(wanted)) {
                return method;
            }
        }
        Method method = face.get(below(face.size()));
        boolean wide = reference.stamps() > 5 && reference.room() > 6;
        // A withdrawal now and then only, or few stamps would ever stand; slow questions where they are cheap.
        boolean refused = method.getName().equals("withdraw") && below(3) != 0
            || wide && SLOW.contains(method.getName());
        return refused ? face.get(0) : method;
    }

    private static int argument(String method, int position, boolean small) {
        boolean wrong = below(25) == 0;
        if (wrong) {
            return new int[] {-1, 0, 13, 61, 100, 301, Integer.MIN_VALUE, Integer.MAX_VALUE}[below(8)];
        }
        switch (method) {
            case "addStamp":
                return position == 0 ? 1 + below(small ? 12 : 60) : below(small ? 5 : 100);
            case "print":
                return position == 0 ? below(8) : 1 + below(small ? 3 : 99);
            case "ofStampFor":
                return position == 0 ? 1 + below(small ? 60 : 300) : below(8);
            case "setRoom":
            case "reachWithRoom":
                return 1 + below(small ? 6 : 12);
            case "withdraw":
            case "valueOf":
            case "stockOf":
            case "vendedOf":
                return below(8);
            default:
                return 1 + below(small ? 60 : 300);
        }
    }

    private static Method twin(Method method) {
        try {
            return StampVendor.class.getMethod(method.getName(), method.getParameterTypes());
        } catch (NoSuchMethodException e) {
            throw new IllegalStateException(e);
        }
    }

    private static String answer(Method method, Object on, Object[] arguments) {
        try {
            return String.valueOf(method.invoke(on, arguments));
        } catch (InvocationTargetException e) {
            return "throws." + e.getCause().getClass().getSimpleName();
        } catch (IllegalAccessException e) {
            throw new IllegalStateException(e);
        }
    }

    private static String shown(Reference x) {
        StringBuilder text = new StringBuilder();
        text.append(x.room()).append(' ').append(x.letters()).append(' ').append(x.taken());
        text.append(' ').append(x.overpaid());
        for (int i = 0; i < x.stamps(); i++) {
            text.append(" [").append(x.valueOf(i)).append(' ').append(x.stockOf(i));
            text.append(' ').append(x.vendedOf(i)).append(']');
        }
        return text.toString();
    }
}
