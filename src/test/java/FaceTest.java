import java.lang.reflect.Constructor;
import java.lang.reflect.Field;
import java.lang.reflect.Method;
import java.lang.reflect.Modifier;
import java.util.Arrays;
import java.util.Set;
import java.util.TreeSet;

/** The class has the document's face, and nothing else that can be seen from outside. */
public final class FaceTest {
    private static final Set<String> FACE = Set.of(
        "int addStamp(int, int) IllegalArgumentException IllegalStateException",
        "int withdraw(int) IndexOutOfBoundsException",
        "int print(int, int) IndexOutOfBoundsException IllegalArgumentException",
        "int setRoom(int) IllegalArgumentException",
        "int vend(int) IllegalArgumentException IllegalStateException",
        "int stamps()",
        "int room()",
        "int valueOf(int) IndexOutOfBoundsException",
        "int stockOf(int) IndexOutOfBoundsException",
        "int vendedOf(int) IndexOutOfBoundsException",
        "int letters()",
        "int taken()",
        "int overpaid()",
        "int scarcest()",
        "boolean canPay(int) IllegalArgumentException",
        "int overpay(int) IllegalArgumentException",
        "int stampsFor(int) IllegalArgumentException",
        "int ofStampFor(int, int) IndexOutOfBoundsException IllegalArgumentException",
        "int reachNow()",
        "int most()",
        "int fewest(int) IllegalArgumentException",
        "int ways(int) IllegalArgumentException",
        "int reach()",
        "int gapFrom(int) IllegalArgumentException",
        "int gapsTo(int) IllegalArgumentException",
        "int lettersOf(int) IllegalArgumentException",
        "int bestValue()",
        "int bestToPrint()",
        "int reachWithRoom(int) IllegalArgumentException",
        "double meanValue()",
        "long digest()");

    private FaceTest() {
    }

    public static void main(String[] args) {
        Set<String> seen = new TreeSet<>();
        Set<String> publicNames = new TreeSet<>();
        for (Method method : StampVendor.class.getDeclaredMethods()) {
            if (!Modifier.isPrivate(method.getModifiers())) {
                seen.add(text(method));
                publicNames.add(method.getName());
                Check.due(method + " is plainly public", Modifier.PUBLIC, method.getModifiers());
            }
        }
        Check.due("the methods", new TreeSet<>(FACE), seen);
        for (Method method : StampVendor.class.getDeclaredMethods()) {
            boolean hidden = Modifier.isPrivate(method.getModifiers());
            Check.due(method + " bears a public name", false, hidden && publicNames.contains(method.getName()));
        }
        for (Field field : StampVendor.class.getDeclaredFields()) {
            Check.due(field + " is private", true, Modifier.isPrivate(field.getModifiers()));
        }
        Constructor<?>[] constructors = StampVendor.class.getDeclaredConstructors();
        Check.due("constructors", "[public StampVendor()]", Arrays.toString(constructors));
        Check.due("class", Modifier.PUBLIC | Modifier.FINAL, StampVendor.class.getModifiers());
        Check.finish("FaceTest");
    }

    private static String text(Method method) {
        StringBuilder text = new StringBuilder(method.getReturnType().getSimpleName());
        text.append(' ').append(method.getName()).append('(');
        for (int i = 0; i < method.getParameterCount(); i++) {
            text.append(i == 0 ? "" : ", ").append(method.getParameterTypes()[i].getSimpleName());
        }
        text.append(')');
        for (Class<?> thrown : method.getExceptionTypes()) {
            text.append(' ').append(thrown.getSimpleName());
        }
        return text.toString();
    }
}
