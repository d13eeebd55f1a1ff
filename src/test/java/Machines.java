import java.util.function.Supplier;

/** What the tests of single calls share: machines, all that can be seen of one, and checks of an answer. */
abstract class Machines {
    static final String BAD_ARGUMENT = "IllegalArgumentException";
    static final String BAD_STATE = "IllegalStateException";
    static final String NO_SUCH_STAMP = "IndexOutOfBoundsException";
    static final int[] EIGHT_VALUES = {60, 1, 7, 30, 59, 2, 45, 12};

    private static String about = "";

    /** What the checks from now on are about: it is told with each answer that is not as due. */
    static void about(String what) {
        about = what;
    }

    static void due(String what, Object want, Supplier<Object> call) {
        Check.dueAnswer(about + ": " + what, want, call);
    }

    /** A machine with these values and stocks: value, stock, value, stock, .. */
    static StampVendor machine(int... valuesAndStocks) {
        StampVendor x = new StampVendor();
        for (int i = 0; i < valuesAndStocks.length; i += 2) {
            x.addStamp(valuesAndStocks[i], valuesAndStocks[i + 1]);
        }
        return x;
    }

    static StampVendor machineWithRoom(int room, int... valuesAndStocks) {
        StampVendor x = machine(valuesAndStocks);
        x.setRoom(room);
        return x;
    }

    static StampVendor machineOfEight() {
        StampVendor x = new StampVendor();
        for (int value : EIGHT_VALUES) {
            x.addStamp(value, 3);
        }
        return x;
    }

    /** All that can be seen of a machine. */
    static String seen(StampVendor x) {
        StringBuilder text = new StringBuilder();
        text.append(x.digest()).append(' ').append(x.stamps()).append(' ').append(x.room()).append(' ');
        text.append(x.letters()).append(' ').append(x.taken()).append(' ').append(x.overpaid());
        for (int i = 0; i < x.stamps(); i++) {
            text.append(" [").append(x.valueOf(i)).append(' ').append(x.stockOf(i));
            text.append(' ').append(x.vendedOf(i)).append(']');
        }
        return text.toString();
    }

    /** The call throws this, and nothing of the machine is changed by it. */
    static void dueThrow(String what, String exception, StampVendor x, Supplier<Object> call) {
        String before = seen(x);
        due(what, exception, call);
        due(what + " changes nothing", before, () -> seen(x));
    }
}
