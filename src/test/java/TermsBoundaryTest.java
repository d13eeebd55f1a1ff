import java.util.function.Function;
import java.util.function.IntFunction;

/** The document's "What it is" and "Terms": a test for each sentence with a boundary, on both sides of it. */
public final class TermsBoundaryTest extends Machines {
    private static final int[] FAR_OFF = {-1, Integer.MIN_VALUE, Integer.MAX_VALUE};

    private TermsBoundaryTest() {
    }

    public static void main(String[] args) {
        usedForAtMost512Calls();
        atMostEightStamps();
        numberedFromZero();
        valueOneToSixty();
        valueThatNoOtherHas();
        stockZeroToNinetyNine();
        roomOneToTwelve();
        roomSixAtFirst();
        postageOneToThreeHundred();
        noMoreInAllThanRoomByTheStock();
        noMoreInAllThanRoomByThePrint();
        noMoreThanAreInStock();
        byThePrintAsManyAsOneLikes();
        paysExactlyOrCovers();
        leastSum();
        greatestSumOfALetter();
        fewestStamps();
        mostOfTheGreatestValue();
        mostOfTheNextValueAndSoOn();
        noneIfThereIsNoSuchChoice();
        reachZero();
        reachThreeHundredByThePrint();
        reachThreeHundredByTheStock();
        anExceptionChangesNothing();
        theFirstNamedExceptionIsThrown();
        Check.finish("TermsBoundaryTest");
    }

    private static void usedForAtMost512Calls() {
        about("used for at most 512 calls");
        dueAsLast("letters", 254, StampVendor::letters);
        dueAsLast("taken, 300 each", 76200, StampVendor::taken);
        dueAsLast("overpaid, 1 each", 254, StampVendor::overpaid);
        dueAsLast("vendedOf, 5 each", 1270, x -> x.vendedOf(0));
        dueAsLast("stockOf", 94, x -> x.stockOf(0));
        dueAsLast("vend", 1, x -> x.vend(299));
        dueAsLast("print", 99, x -> x.print(0, 99));
        dueAsLast("addStamp", 1, x -> x.addStamp(1, 1));
        dueAsLast("setRoom", 12, x -> x.setRoom(1));
        dueAsLast("withdraw", 94, x -> x.withdraw(0));
        dueAsLast("lettersOf", 50, x -> x.lettersOf(60));
        dueAsLast("a refused call", BAD_ARGUMENT, x -> x.vend(301));
    }

    private static void dueAsLast(String what, Object want, Function<StampVendor, Object> call) {
        StampVendor x = after511Calls();
        due("the 512th is " + what, want, () -> call.apply(x));
    }

    private static StampVendor after511Calls() {
        StampVendor x = new StampVendor();
        x.addStamp(60, 99);
        x.setRoom(12);
        x.room();
        for (int calls = 3; calls < 511; calls += 2) {
            x.print(0, 99);
            x.vend(299);
        }
        return x;
    }

    private static void atMostEightStamps() {
        about("at most 8 stamps");
        StampVendor x = new StampVendor();
        for (int i = 0; i < 7; i++) {
            x.addStamp(i + 1, 1);
        }
        due("the eighth", 7, () -> x.addStamp(8, 1));
        due("then there are", 8, x::stamps);
        dueThrow("the ninth", BAD_STATE, x, () -> x.addStamp(9, 1));
        due("there are still", 8, x::stamps);
    }

    private static void numberedFromZero() {
        about("numbered from 0");
        StampVendor x = new StampVendor();
        for (int i = 0; i < EIGHT_VALUES.length; i++) {
            int number = i;
            due("number of stamp " + i, number, () -> x.addStamp(EIGHT_VALUES[number], 90 + number));
        }
        due("value of the first", EIGHT_VALUES[0], () -> x.valueOf(0));
        due("value of the last", EIGHT_VALUES[7], () -> x.valueOf(7));
        due("stock of the first", 90, () -> x.stockOf(0));
        due("stock of the last", 97, () -> x.stockOf(7));
        due("none before the first", NO_SUCH_STAMP, () -> x.valueOf(-1));
        due("none behind the last", NO_SUCH_STAMP, () -> x.valueOf(8));
    }

    private static void valueOneToSixty() {
        about("a value, 1 to 60");
        StampVendor x = new StampVendor();
        dueThrow("0", BAD_ARGUMENT, x, () -> x.addStamp(0, 5));
        dueThrow("61", BAD_ARGUMENT, x, () -> x.addStamp(61, 5));
        for (int value : FAR_OFF) {
            dueThrow("value " + value, BAD_ARGUMENT, x, () -> x.addStamp(value, 5));
        }
        due("1", 0, () -> x.addStamp(1, 5));
        due("60", 1, () -> x.addStamp(60, 5));
        due("1 is its value", 1, () -> x.valueOf(0));
        due("60 is its value", 60, () -> x.valueOf(1));
    }

    private static void valueThatNoOtherHas() {
        about("a value which no other one has");
        StampVendor x = machine(1, 0, 30, 5, 60, 99);
        dueThrow("the first one's", BAD_STATE, x, () -> x.addStamp(1, 7));
        dueThrow("the middle one's", BAD_STATE, x, () -> x.addStamp(30, 7));
        dueThrow("the last one's", BAD_STATE, x, () -> x.addStamp(60, 7));
        due("1 more than the first one's", 3, () -> x.addStamp(2, 7));
        due("1 less than the last one's", 4, () -> x.addStamp(59, 7));
        x.withdraw(1);
        due("one that was withdrawn", 4, () -> x.addStamp(30, 7));
        dueThrow("and is there again", BAD_STATE, x, () -> x.addStamp(30, 7));
    }

    private static void stockZeroToNinetyNine() {
        about("a stock, 0 to 99");
        StampVendor x = new StampVendor();
        dueThrow("100", BAD_ARGUMENT, x, () -> x.addStamp(5, 100));
        for (int stock : FAR_OFF) {
            dueThrow("stock " + stock, BAD_ARGUMENT, x, () -> x.addStamp(5, stock));
        }
        due("0", 0, () -> x.addStamp(5, 0));
        due("99", 1, () -> x.addStamp(6, 99));
        due("0 is its stock", 0, () -> x.stockOf(0));
        due("99 is its stock", 99, () -> x.stockOf(1));
    }

    private static void roomOneToTwelve() {
        about("room for 1 to 12");
        StampVendor x = machine(1, 99);
        dueThrow("0", BAD_ARGUMENT, x, () -> x.setRoom(0));
        dueThrow("13", BAD_ARGUMENT, x, () -> x.setRoom(13));
        for (int room : FAR_OFF) {
            dueThrow("room " + room, BAD_ARGUMENT, x, () -> x.setRoom(room));
        }
        due("1", 6, () -> x.setRoom(1));
        due("1 fits", true, () -> x.canPay(1));
        due("2 do not", false, () -> x.canPay(2));
        due("12", 1, () -> x.setRoom(12));
        due("12 fit", true, () -> x.canPay(12));
        due("13 do not", false, () -> x.canPay(13));
    }

    private static void roomSixAtFirst() {
        about("room for 6, at first");
        due("room", 6, () -> new StampVendor().room());
        due("what the first setRoom answers", 6, () -> new StampVendor().setRoom(9));
        StampVendor x = machine(1, 99);
        due("6 fit", true, () -> x.canPay(6));
        due("7 do not", false, () -> x.canPay(7));
    }

    private static void postageOneToThreeHundred() {
        about("postage is 1 to 300");
        StampVendor x = machineWithRoom(12, 1, 2, 60, 50);
        postageBounds("vend", x, x::vend, 0, 0);
        postageBounds("canPay", x, x::canPay, true, true);
        postageBounds("overpay", x, x::overpay, 0, 0);
        postageBounds("stampsFor", x, x::stampsFor, 1, 5);
        postageBounds("ofStampFor", x, postage -> x.ofStampFor(postage, 1), 0, 5);
        postageBounds("fewest", x, x::fewest, 1, 5);
        postageBounds("ways", x, x::ways, 1, 1);
        postageBounds("gapFrom", x, x::gapFrom, 13, -1);
        // Paid are to 12, 60 to 71, 120 to 130, 180 to 189, 240 to 248 and 300.
        postageBounds("gapsTo", x, x::gapsTo, 0, 47 + 48 + 49 + 50 + 51);
        // A 1 and five 60s are vended: a letter gets the other 1, and each one behind it a 60.
        postageBounds("lettersOf", x, x::lettersOf, 46, 9);
    }

    private static void postageBounds(String name, StampVendor x, IntFunction<Object> call, Object ofOne,
        Object ofThreeHundred) {
        dueThrow(name + " 0", BAD_ARGUMENT, x, () -> call.apply(0));
        dueThrow(name + " 301", BAD_ARGUMENT, x, () -> call.apply(301));
        for (int postage : FAR_OFF) {
            dueThrow(name + " " + postage, BAD_ARGUMENT, x, () -> call.apply(postage));
        }
        due(name + " 1", ofOne, () -> call.apply(1));
        due(name + " 300", ofThreeHundred, () -> call.apply(300));
    }

    private static void noMoreInAllThanRoomByTheStock() {
        about("no more in all than a letter has room for, by the stock");
        StampVendor x = machine(1, 5, 2, 1);
        due("7 are six", true, () -> x.canPay(7));
        x.setRoom(5);
        due("7 without room for the sixth", false, () -> x.canPay(7));
        due("6 are five", true, () -> x.canPay(6));
        due("overpay, five", 0, () -> x.overpay(6));
        due("overpay, six", -1, () -> x.overpay(7));
        due("stampsFor, five", 5, () -> x.stampsFor(6));
        due("stampsFor, six", 0, () -> x.stampsFor(7));
        due("reachNow", 6, x::reachNow);
        due("most", 6, x::most);
        dueThrow("vend, six", BAD_STATE, x, () -> x.vend(7));
        due("lettersOf, six", 0, () -> x.lettersOf(7));
        due("lettersOf, five", 1, () -> x.lettersOf(6));
        due("vend, five", 0, () -> x.vend(6));
    }

    private static void noMoreInAllThanRoomByThePrint() {
        about("no more in all than a letter has room for, by the print");
        StampVendor x = machineWithRoom(4, 1, 0, 10, 0);
        due("fewest, four", 4, () -> x.fewest(13));
        due("fewest, five", -1, () -> x.fewest(14));
        due("ways, four", 1, () -> x.ways(13));
        due("ways, five", 0, () -> x.ways(14));
        due("reach", 4, x::reach);
        due("gapFrom", 14, () -> x.gapFrom(10));
        due("gapsTo 13: 5 to 9", 5, () -> x.gapsTo(13));
        due("gapsTo 14", 6, () -> x.gapsTo(14));
        due("reachWithRoom, one more", 5, () -> x.reachWithRoom(5));
    }

    private static void noMoreThanAreInStock() {
        about("no more of a stamp than are in stock");
        StampVendor x = machineWithRoom(12, 10, 3, 7, 0);
        due("3 of 3", true, () -> x.canPay(30));
        due("4 of 3", false, () -> x.canPay(40));
        due("1 of 0", false, () -> x.canPay(7));
        due("overpay, 3 of 3", 0, () -> x.overpay(30));
        due("overpay, 4 of 3", -1, () -> x.overpay(31));
        due("ofStampFor, 3 of 3", 3, () -> x.ofStampFor(30, 0));
        due("ofStampFor, of 0", 0, () -> x.ofStampFor(7, 1));
        due("most", 30, x::most);
        x.print(0, 1);
        due("4 of 4", true, () -> x.canPay(40));
        due("most, then", 40, x::most);
        x.vend(20);
        due("3 of 2", false, () -> x.canPay(30));
        due("2 of 2", true, () -> x.canPay(20));
    }

    private static void byThePrintAsManyAsOneLikes() {
        about("by the print as many as one likes");
        StampVendor x = machineWithRoom(12, 1, 0, 25, 1);
        due("fewest, 12 of a stamp with stock 0", 12, () -> x.fewest(12));
        due("fewest, 12 of a stamp with stock 1", 12, () -> x.fewest(300));
        due("ways, 12 of a stamp with stock 0", 1, () -> x.ways(12));
        due("ways, 12 of a stamp with stock 1", 1, () -> x.ways(300));
        due("reach, 12 + 12 + ten 1s", 34, () -> machineWithRoom(12, 1, 0, 12, 0).reach());
        due("gapFrom", 13, () -> x.gapFrom(1));
        due("gapsTo", 12, () -> x.gapsTo(24));
        due("reachWithRoom", 11, () -> x.reachWithRoom(11));
    }

    private static void paysExactlyOrCovers() {
        about("exactly if they are the postage, covers if they are the postage or more");
        StampVendor x = machine(10, 1);
        due("9 exactly", false, () -> x.canPay(9));
        due("10 exactly", true, () -> x.canPay(10));
        due("11 exactly", false, () -> x.canPay(11));
        due("9 is covered", 1, () -> x.overpay(9));
        due("10 is covered", 0, () -> x.overpay(10));
        due("11 is not", -1, () -> x.overpay(11));
    }

    private static void leastSum() {
        about("those with the least sum");
        StampVendor x = machine(10, 9, 4, 9);
        due("9: a 10, before three 4s", 1, () -> x.overpay(9));
        due("one stamp", 1, () -> x.stampsFor(9));
        due("11: three 4s, before two 10s or 10 and 4", 1, () -> x.overpay(11));
        due("more stamps than another choice has", 3, () -> x.stampsFor(11));
        due("8: two 4s, before one 10", 2, () -> x.ofStampFor(8, 1));
        due("no 10", 0, () -> x.ofStampFor(8, 0));
    }

    /** No letter gets a greater sum than 358: with another 60 the five of them would be 300. */
    private static void greatestSumOfALetter() {
        about("the least sum may be over 300");
        StampVendor x = machine(59, 2, 60, 4);
        due("299 exactly", 0, () -> x.overpay(299));
        due("300 by 358", 58, () -> x.overpay(300));
        due("all six", 6, () -> x.stampsFor(300));
        due("both 59s", 2, () -> x.ofStampFor(300, 0));
        due("lettersOf", 1, () -> x.lettersOf(300));
        due("vend", 58, () -> x.vend(300));
        due("taken", 358, x::taken);
        due("300 by five 60s", 0, () -> machine(59, 2, 60, 5).overpay(300));
        due("300 by 357", 57, () -> machine(58, 1, 59, 1, 60, 4).overpay(300));
        due("60 for 1, the greatest difference", 59, () -> machine(60, 1).overpay(1));
        due("60 for 60", 0, () -> machine(60, 1).overpay(60));
    }

    private static void fewestStamps() {
        about("of these those with the fewest stamps");
        StampVendor x = machine(6, 1, 5, 9, 1, 9);
        due("10 = 5 + 5, before 6 and four 1s", 2, () -> x.stampsFor(10));
        due("no 6", 0, () -> x.ofStampFor(10, 0));
        due("two 5s", 2, () -> x.ofStampFor(10, 1));
        due("11 = 6 + 5", 1, () -> x.ofStampFor(11, 0));
        StampVendor without = machine(6, 1, 5, 1, 1, 9);
        due("10 by one 5: 6 and four 1s, before 5 and five 1s", 5, () -> without.stampsFor(10));
    }

    private static void mostOfTheGreatestValue() {
        about("of these the one with the most of the stamp with the greatest value");
        int[][] orders = {{9, 7, 5}, {9, 5, 7}, {7, 9, 5}, {7, 5, 9}, {5, 9, 7}, {5, 7, 9}};
        for (int[] order : orders) {
            StampVendor x = machine(order[0], 9, order[1], 9, order[2], 9);
            for (int stamp = 0; stamp < 3; stamp++) {
                int number = stamp;
                int want = order[stamp] == 7 ? 0 : 1;
                due("14 = 9 + 5, before 7 + 7: of the " + order[stamp], want, () -> x.ofStampFor(14, number));
            }
        }
        StampVendor few = machine(9, 0, 7, 9, 5, 9);
        due("14 = 7 + 7 without a 9 in stock", 2, () -> few.ofStampFor(14, 1));
    }

    private static void mostOfTheNextValueAndSoOn() {
        about("of several with the most of the one with the next value, and so on");
        StampVendor second = machineWithRoom(3, 9, 9, 20, 1, 10, 9, 11, 9);
        due("40 = 20 + 11 + 9, before 20 + 10 + 10", 1, () -> second.ofStampFor(40, 3));
        due("no 10", 0, () -> second.ofStampFor(40, 2));
        StampVendor sixth = machineWithRoom(7, 10, 9, 60, 1, 9, 9, 50, 1, 11, 9, 40, 1, 30, 1, 20, 1);
        due("220: the first five values, 20 and two more", 7, () -> sixth.stampsFor(220));
        due("of the sixth value one", 1, () -> sixth.ofStampFor(220, 4));
        due("of the seventh none", 0, () -> sixth.ofStampFor(220, 0));
        due("of the eighth one", 1, () -> sixth.ofStampFor(220, 2));
        due("vend", 0, () -> sixth.vend(220));
        due("the 11 was vended", 1, () -> sixth.vendedOf(4));
        due("no 10 was vended", 0, () -> sixth.vendedOf(0));
        due("the 9 was vended", 1, () -> sixth.vendedOf(2));
    }

    private static void noneIfThereIsNoSuchChoice() {
        about("none, if there is no such choice");
        StampVendor x = machine(5, 2, 8, 1);
        due("18, all that is there", 0, () -> x.overpay(18));
        due("19", -1, () -> x.overpay(19));
        due("stampsFor 18", 3, () -> x.stampsFor(18));
        due("stampsFor 19", 0, () -> x.stampsFor(19));
        due("ofStampFor 18", 2, () -> x.ofStampFor(18, 0));
        due("ofStampFor 19", 0, () -> x.ofStampFor(19, 0));
        due("lettersOf 18", 1, () -> x.lettersOf(18));
        due("lettersOf 19", 0, () -> x.lettersOf(19));
        dueThrow("vend 19", BAD_STATE, x, () -> x.vend(19));
        due("vend 18", 0, () -> x.vend(18));
        dueThrow("vend 1, when nothing is left", BAD_STATE, x, () -> x.vend(1));
    }

    private static void reachZero() {
        about("the reach, 0");
        StampVendor none = new StampVendor();
        due("reachNow without stamps", 0, none::reachNow);
        due("reach without stamps", 0, none::reach);
        due("reachWithRoom without stamps", 0, () -> none.reachWithRoom(12));
        StampVendor two = machine(2, 9, 3, 9);
        due("reachNow without a 1", 0, two::reachNow);
        due("reach without a 1", 0, two::reach);
        due("reachWithRoom without a 1", 0, () -> two.reachWithRoom(12));
        StampVendor one = machineWithRoom(1, 1, 1);
        due("reachNow, one 1", 1, one::reachNow);
        due("reach, one 1", 1, one::reach);
        due("reachWithRoom, one 1", 1, () -> one.reachWithRoom(1));
        one.vend(1);
        due("reachNow, the 1 is vended", 0, one::reachNow);
    }

    private static void reachThreeHundredByThePrint() {
        about("the reach by the print, 300");
        StampVendor x = machineWithRoom(10, 1, 0, 2, 0, 8, 0, 17, 0, 45, 0);
        due("reach, 300 needs 11", 299, x::reach);
        due("reachWithRoom 10", 299, () -> x.reachWithRoom(10));
        due("reachWithRoom 11", 300, () -> x.reachWithRoom(11));
        x.setRoom(11);
        due("reach with room 11", 300, x::reach);
        x.setRoom(12);
        due("reach, more than 300 can be paid", 300, x::reach);
        due("reachWithRoom, more than 300 can be paid", 300, () -> x.reachWithRoom(12));
    }

    private static void reachThreeHundredByTheStock() {
        about("the reach by the stock, 300");
        int[] last = {56, 57, 58, 59};
        int[] reach = {299, 300, 300, 300};
        for (int i = 0; i < last.length; i++) {
            StampVendor x = machineWithRoom(12, 1, 1, 2, 1, 4, 1, 8, 1, 16, 1, 32, 1, 60, 3, last[i], 1);
            due("of all with a " + last[i], reach[i], x::reachNow);
            due("and the sum of them", 243 + last[i], x::most);
        }
    }

    private static void anExceptionChangesNothing() {
        about("a method that throws an exception changes nothing");
        StampVendor x = machine(1, 4, 5, 3, 12, 2);
        x.vend(22);
        x.setRoom(4);
        dueThrow("addStamp, value", BAD_ARGUMENT, x, () -> x.addStamp(61, 5));
        dueThrow("addStamp, stock", BAD_ARGUMENT, x, () -> x.addStamp(60, 100));
        dueThrow("addStamp, again", BAD_STATE, x, () -> x.addStamp(5, 50));
        dueThrow("withdraw", NO_SUCH_STAMP, x, () -> x.withdraw(3));
        dueThrow("print, stamp", NO_SUCH_STAMP, x, () -> x.print(3, 1));
        dueThrow("print, many", BAD_ARGUMENT, x, () -> x.print(0, 100));
        dueThrow("setRoom", BAD_ARGUMENT, x, () -> x.setRoom(13));
        dueThrow("vend, postage", BAD_ARGUMENT, x, () -> x.vend(301));
        dueThrow("vend, none", BAD_STATE, x, () -> x.vend(300));
        dueThrow("lettersOf", BAD_ARGUMENT, x, () -> x.lettersOf(301));
        dueThrow("reachWithRoom", BAD_ARGUMENT, x, () -> x.reachWithRoom(13));
        due("then a letter is vended as if nothing was", 0, () -> x.vend(18));
        due("of the 1", 3, () -> x.stockOf(0));
        due("of the 5", 0, () -> x.stockOf(1));
        due("of the 12", 0, () -> x.stockOf(2));
        StampVendor full = machineOfEight();
        dueThrow("addStamp, a ninth", BAD_STATE, full, () -> full.addStamp(50, 5));
        due("there are 8 still", 8, full::stamps);
    }

    private static void theFirstNamedExceptionIsThrown() {
        about("the one that is named first is thrown");
        StampVendor full = machineOfEight();
        dueThrow("addStamp, bad value before 8", BAD_ARGUMENT, full, () -> full.addStamp(0, 1));
        dueThrow("addStamp, bad value before 8", BAD_ARGUMENT, full, () -> full.addStamp(61, 1));
        dueThrow("addStamp, bad stock before 8", BAD_ARGUMENT, full, () -> full.addStamp(50, -1));
        dueThrow("addStamp, bad stock before 8", BAD_ARGUMENT, full, () -> full.addStamp(50, 100));
        StampVendor x = machine(5, 1);
        dueThrow("addStamp, bad stock before the same value", BAD_ARGUMENT, x, () -> x.addStamp(5, -1));
        dueThrow("addStamp, bad stock before the same value", BAD_ARGUMENT, x, () -> x.addStamp(5, 100));
        dueThrow("print, no stamp before many 0", NO_SUCH_STAMP, x, () -> x.print(1, 0));
        dueThrow("print, no stamp before many 100", NO_SUCH_STAMP, x, () -> x.print(-1, 100));
        dueThrow("ofStampFor, no stamp before postage 0", NO_SUCH_STAMP, x, () -> x.ofStampFor(0, 1));
        dueThrow("ofStampFor, no stamp before postage 301", NO_SUCH_STAMP, x, () -> x.ofStampFor(301, -1));
        dueThrow("ofStampFor, no stamp where it gets none", NO_SUCH_STAMP, x, () -> x.ofStampFor(300, 1));
        StampVendor none = new StampVendor();
        dueThrow("vend, postage 0 before none", BAD_ARGUMENT, none, () -> none.vend(0));
        dueThrow("vend, postage 301 before none", BAD_ARGUMENT, none, () -> none.vend(301));
        dueThrow("print without stamps", NO_SUCH_STAMP, none, () -> none.print(0, 100));
        dueThrow("ofStampFor without stamps", NO_SUCH_STAMP, none, () -> none.ofStampFor(301, 0));
    }
}
