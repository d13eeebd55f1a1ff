import java.math.BigInteger;
import java.util.ArrayList;
import java.util.List;

/** The document's promises 1 to 32: a test for each sentence with a boundary, on both sides of it. */
public final class PromiseBoundaryTest extends Machines {
    private static final int[] NO_STAMPS_OF_THREE = {3, -1, 7, 8, Integer.MIN_VALUE, Integer.MAX_VALUE};
    private static final int[] FAR_OFF = {-1, Integer.MIN_VALUE, Integer.MAX_VALUE};

    private PromiseBoundaryTest() {
    }

    public static void main(String[] args) {
        aMachineWithoutStamps();
        addStampRefusesValueOrStock();
        addStampRefusesNinthOrSameValue();
        withdrawGivesThoseBehindOneLess();
        withdrawReturnsTheStock();
        withdrawNeedsAStamp();
        printTillThereAre99();
        printNeedsAStamp();
        printManyOneToNinetyNine();
        setRoomReturnsTheRoomBefore();
        setRoomOneToTwelve();
        vendTakesTheStock();
        vendRefusesIfItGetsNone();
        stampsAndRoom();
        valueStockAndVendedNeedAStamp();
        vendedOfCounts();
        lettersTakenAndOverpaid();
        scarcest();
        canPay();
        overpay();
        stampsFor();
        ofStampFor();
        reachNow();
        most();
        fewest();
        ways();
        reach();
        gapFrom();
        gapsTo();
        lettersOfAtMostFifty();
        lettersOfOneBehindTheOther();
        lettersOfChangesNothing();
        bestValueOneToSixty();
        bestValueThatNoStampHas();
        bestValueOfSeveralTheSmallest();
        bestValueWithTheGreatestReach();
        bestValueWhetherThereAre8OrNot();
        bestValueChangesNothing();
        bestToPrintTwentyMore();
        bestToPrintOfSeveralTheSmallestNumber();
        bestToPrintWithoutStamps();
        bestToPrintChangesNothing();
        reachWithRoomOneToTwelve();
        reachWithRoomOfTheStampsOfNow();
        reachWithRoomChangesNothing();
        meanValue();
        digestOfANewMachine();
        digestWrapsAroundAt64Bits();
        digestHoldsEachNumber();
        Check.finish("PromiseBoundaryTest");
    }

    private static void aMachineWithoutStamps() {
        about("promise 1, a machine without stamps");
        StampVendor x = new StampVendor();
        due("stamps", 0, x::stamps);
        due("letters", 0, x::letters);
        due("taken", 0, x::taken);
        due("overpaid", 0, x::overpaid);
        due("withdraw 0", NO_SUCH_STAMP, () -> x.withdraw(0));
        due("print 0", NO_SUCH_STAMP, () -> x.print(0, 1));
        due("valueOf 0", NO_SUCH_STAMP, () -> x.valueOf(0));
        due("stockOf 0", NO_SUCH_STAMP, () -> x.stockOf(0));
        due("vendedOf 0", NO_SUCH_STAMP, () -> x.vendedOf(0));
        due("ofStampFor 0", NO_SUCH_STAMP, () -> x.ofStampFor(1, 0));
        due("vend 1", BAD_STATE, () -> x.vend(1));
        due("the first stamp", 0, () -> x.addStamp(1, 1));
        due("stamps, then", 1, x::stamps);
    }

    private static void addStampRefusesValueOrStock() {
        about("promise 2, if value is not 1 to 60, or stock is not 0 to 99");
        StampVendor x = new StampVendor();
        dueThrow("(0, 0)", BAD_ARGUMENT, x, () -> x.addStamp(0, 0));
        dueThrow("(61, 99)", BAD_ARGUMENT, x, () -> x.addStamp(61, 99));
        dueThrow("(1, -1)", BAD_ARGUMENT, x, () -> x.addStamp(1, -1));
        dueThrow("(60, 100)", BAD_ARGUMENT, x, () -> x.addStamp(60, 100));
        due("(1, 0)", 0, () -> x.addStamp(1, 0));
        due("(60, 99)", 1, () -> x.addStamp(60, 99));
        due("(2, 99)", 2, () -> x.addStamp(2, 99));
        due("(59, 0)", 3, () -> x.addStamp(59, 0));
    }

    private static void addStampRefusesNinthOrSameValue() {
        about("promise 2, if there are 8, or another one has this value");
        StampVendor x = machine(1, 0, 2, 0, 3, 0, 4, 0, 5, 0, 6, 0, 7, 0);
        dueThrow("the value of the first of 7", BAD_STATE, x, () -> x.addStamp(1, 0));
        dueThrow("the value of the last of 7", BAD_STATE, x, () -> x.addStamp(7, 0));
        due("the eighth", 7, () -> x.addStamp(8, 0));
        dueThrow("the ninth", BAD_STATE, x, () -> x.addStamp(9, 0));
        dueThrow("the value of one of 8", BAD_STATE, x, () -> x.addStamp(8, 0));
        x.withdraw(3);
        dueThrow("with 7 again, the value of one behind", BAD_STATE, x, () -> x.addStamp(8, 0));
        due("with 7 again, the value that was withdrawn", 7, () -> x.addStamp(4, 0));
        dueThrow("the ninth again", BAD_STATE, x, () -> x.addStamp(9, 0));
    }

    private static void withdrawGivesThoseBehindOneLess() {
        about("promise 3, those behind it have a number 1 less then");
        for (int out = 0; out < 8; out++) {
            StampVendor x = machineWithRoom(12);
            for (int i = 0; i < 8; i++) {
                x.addStamp(EIGHT_VALUES[i], 20 + i);
                x.vend(EIGHT_VALUES[i]);
                x.print(i, 1 + i);
            }
            int number = out;
            due("the stock of " + out, 20 + 2 * out, () -> x.withdraw(number));
            due("stamps without " + out, 7, x::stamps);
            for (int i = 0; i < 7; i++) {
                int now = i;
                int was = i < out ? i : i + 1;
                due("value of " + i + " without " + out, EIGHT_VALUES[was], () -> x.valueOf(now));
                due("stock of " + i + " without " + out, 20 + 2 * was, () -> x.stockOf(now));
                due("vended of " + i + " without " + out, 1, () -> x.vendedOf(now));
            }
            due("no 7 without " + out, NO_SUCH_STAMP, () -> x.valueOf(7));
        }
        StampVendor y = machine(10, 9, 20, 9, 30, 9);
        y.vend(60);
        y.vend(30);
        y.vend(20);
        y.withdraw(0);
        due("the vended goes along, number 0", 1, () -> y.vendedOf(0));
        due("the vended goes along, number 1", 3, () -> y.vendedOf(1));
    }

    private static void withdrawReturnsTheStock() {
        about("promise 3, returns how many of it were in stock");
        StampVendor x = machine(10, 0, 20, 99, 30, 5);
        due("0", 0, () -> x.withdraw(0));
        due("99", 99, () -> x.withdraw(0));
        x.vend(30);
        due("after vending", 4, () -> x.withdraw(0));
        due("stamps", 0, x::stamps);
    }

    private static void withdrawNeedsAStamp() {
        about("promise 3, if there is no such stamp");
        StampVendor x = machine(10, 1, 20, 2, 30, 3);
        for (int stamp : NO_STAMPS_OF_THREE) {
            dueThrow("stamp " + stamp, NO_SUCH_STAMP, x, () -> x.withdraw(stamp));
        }
        due("the last", 3, () -> x.withdraw(2));
        dueThrow("the last again", NO_SUCH_STAMP, x, () -> x.withdraw(2));
        due("the first", 1, () -> x.withdraw(0));
        due("the only one", 2, () -> x.withdraw(0));
        dueThrow("none is left", NO_SUCH_STAMP, x, () -> x.withdraw(0));
    }

    private static void printTillThereAre99() {
        about("promise 4, till there are 99 of it at the most");
        due("97 + 1", 98, () -> machine(5, 97).print(0, 1));
        due("98 + 1", 99, () -> machine(5, 98).print(0, 1));
        due("99 + 1", 99, () -> machine(5, 99).print(0, 1));
        due("0 + 99", 99, () -> machine(5, 0).print(0, 99));
        due("1 + 99", 99, () -> machine(5, 1).print(0, 99));
        due("99 + 99", 99, () -> machine(5, 99).print(0, 99));
        due("50 + 48", 98, () -> machine(5, 50).print(0, 48));
        due("50 + 49", 99, () -> machine(5, 50).print(0, 49));
        due("50 + 50", 99, () -> machine(5, 50).print(0, 50));
        StampVendor x = machine(5, 98, 6, 7);
        x.print(0, 99);
        due("its stock", 99, () -> x.stockOf(0));
        due("the other stock", 7, () -> x.stockOf(1));
    }

    private static void printNeedsAStamp() {
        about("promise 4, if there is no such stamp");
        StampVendor x = machine(10, 1, 20, 2, 30, 3);
        for (int stamp : NO_STAMPS_OF_THREE) {
            dueThrow("stamp " + stamp, NO_SUCH_STAMP, x, () -> x.print(stamp, 1));
        }
        due("the first", 2, () -> x.print(0, 1));
        due("the last", 4, () -> x.print(2, 1));
    }

    private static void printManyOneToNinetyNine() {
        about("promise 4, if many is not 1 to 99");
        StampVendor x = machine(5, 0);
        dueThrow("0", BAD_ARGUMENT, x, () -> x.print(0, 0));
        dueThrow("100", BAD_ARGUMENT, x, () -> x.print(0, 100));
        for (int many : FAR_OFF) {
            dueThrow("many " + many, BAD_ARGUMENT, x, () -> x.print(0, many));
        }
        due("1", 1, () -> x.print(0, 1));
        due("99", 99, () -> x.print(0, 99));
        dueThrow("0 of 99", BAD_ARGUMENT, x, () -> x.print(0, 0));
        dueThrow("100 of 99", BAD_ARGUMENT, x, () -> x.print(0, 100));
    }

    private static void setRoomReturnsTheRoomBefore() {
        about("promise 5, returns for how many before");
        StampVendor x = new StampVendor();
        due("at first", 6, () -> x.setRoom(12));
        due("then", 12, () -> x.setRoom(1));
        due("the same again", 1, () -> x.setRoom(1));
        due("still", 1, x::room);
    }

    private static void setRoomOneToTwelve() {
        about("promise 5, if room is not 1 to 12");
        StampVendor x = new StampVendor();
        dueThrow("0", BAD_ARGUMENT, x, () -> x.setRoom(0));
        dueThrow("13", BAD_ARGUMENT, x, () -> x.setRoom(13));
        for (int room : FAR_OFF) {
            dueThrow("room " + room, BAD_ARGUMENT, x, () -> x.setRoom(room));
        }
        due("1", 6, () -> x.setRoom(1));
        due("12", 1, () -> x.setRoom(12));
        due("room", 12, x::room);
    }

    private static void vendTakesTheStock() {
        about("promise 6, its stamps are not in stock any more");
        StampVendor x = machine(25, 99, 7, 2, 3, 1);
        due("14, both 7s", 0, () -> x.vend(14));
        due("14, no 7 is left", 11, () -> x.vend(14));
        due("3, the only one", 0, () -> x.vend(3));
        due("3, no 3 is left", 22, () -> x.vend(3));
        due("the 25s in stock", 97, () -> x.stockOf(0));
        due("the 7s in stock", 0, () -> x.stockOf(1));
        due("the 3s in stock", 0, () -> x.stockOf(2));
        due("the vended 25s", 2, () -> x.vendedOf(0));
        due("the vended 7s", 2, () -> x.vendedOf(1));
        due("the vended 3s", 1, () -> x.vendedOf(2));
    }

    private static void vendRefusesIfItGetsNone() {
        about("promise 6, if it gets none");
        StampVendor x = machine(10, 2);
        dueThrow("21", BAD_STATE, x, () -> x.vend(21));
        due("20", 0, () -> x.vend(20));
        dueThrow("1, nothing is in stock", BAD_STATE, x, () -> x.vend(1));
        x.print(0, 1);
        due("1, one is printed", 9, () -> x.vend(1));
        StampVendor room = machineWithRoom(1, 10, 2);
        dueThrow("11 has no room", BAD_STATE, room, () -> room.vend(11));
        due("10 has room", 0, () -> room.vend(10));
    }

    private static void stampsAndRoom() {
        about("promise 7");
        StampVendor x = machineOfEight();
        due("8", 8, x::stamps);
        x.withdraw(7);
        due("7", 7, x::stamps);
        about("promise 8");
        due("6 at first", 6, x::room);
        x.setRoom(12);
        due("12", 12, x::room);
        x.setRoom(1);
        due("1", 1, x::room);
    }

    private static void valueStockAndVendedNeedAStamp() {
        StampVendor x = machine(10, 1, 20, 2, 30, 3);
        x.vend(30);
        for (int stamp : NO_STAMPS_OF_THREE) {
            about("promise 9, if there is no such stamp");
            dueThrow("stamp " + stamp, NO_SUCH_STAMP, x, () -> x.valueOf(stamp));
            about("promise 10, if there is no such stamp");
            dueThrow("stamp " + stamp, NO_SUCH_STAMP, x, () -> x.stockOf(stamp));
            about("promise 11, if there is no such stamp");
            dueThrow("stamp " + stamp, NO_SUCH_STAMP, x, () -> x.vendedOf(stamp));
        }
        about("promises 9 to 11, the first and the last stamp");
        due("value of 0", 10, () -> x.valueOf(0));
        due("value of 2", 30, () -> x.valueOf(2));
        due("stock of 0", 1, () -> x.stockOf(0));
        due("stock of 2", 2, () -> x.stockOf(2));
        due("vended of 0", 0, () -> x.vendedOf(0));
        due("vended of 2", 1, () -> x.vendedOf(2));
    }

    private static void vendedOfCounts() {
        about("promise 11, how many of it were vended");
        StampVendor x = machineWithRoom(12, 1, 99);
        for (int letter = 0; letter < 9; letter++) {
            x.vend(11);
        }
        due("all 99", 99, () -> x.vendedOf(0));
        x.print(0, 1);
        due("printing vends none", 99, () -> x.vendedOf(0));
        x.vend(1);
        due("more than were ever in stock", 100, () -> x.vendedOf(0));
        x.withdraw(0);
        x.addStamp(1, 5);
        due("a new one with this value", 0, () -> x.vendedOf(0));
    }

    private static void lettersTakenAndOverpaid() {
        StampVendor x = machine(10, 2);
        x.vend(10);
        about("promise 12");
        due("1", 1, x::letters);
        about("promise 13");
        due("10", 10, x::taken);
        about("promise 14");
        due("0 if all is paid exactly", 0, x::overpaid);
        x.vend(9);
        due("1", 1, x::overpaid);
        Check.answer(() -> x.vend(1));
        Check.answer(() -> x.vend(301));
        about("promises 12 to 14, after two refused calls");
        due("letters", 2, x::letters);
        due("taken", 20, x::taken);
        due("overpaid", 1, x::overpaid);
        x.withdraw(0);
        about("promises 12 to 14, after a withdrawal");
        due("letters", 2, x::letters);
        due("taken", 20, x::taken);
        due("overpaid", 1, x::overpaid);
    }

    private static void scarcest() {
        about("promise 15, of several the smallest number");
        due("all three", 0, () -> machine(10, 3, 20, 3, 30, 3).scarcest());
        due("the last two", 1, () -> machine(10, 4, 20, 3, 30, 3).scarcest());
        due("the first and the last", 0, () -> machine(10, 3, 20, 4, 30, 3).scarcest());
        due("one less", 2, () -> machine(10, 3, 20, 3, 30, 2).scarcest());
        due("0 in stock", 1, () -> machine(10, 1, 20, 0, 30, 0).scarcest());
        due("99 in stock", 0, () -> machine(10, 99, 20, 99).scarcest());
        due("98 in stock", 1, () -> machine(10, 99, 20, 98).scarcest());
        due("the last of 8", 7, () -> machine(1, 9, 2, 9, 3, 9, 4, 9, 5, 9, 6, 9, 7, 9, 8, 8).scarcest());
        about("promise 15, -1 without stamps");
        due("a new one", -1, () -> new StampVendor().scarcest());
        StampVendor x = machine(10, 0);
        due("one stamp, none in stock", 0, x::scarcest);
        x.withdraw(0);
        due("none again", -1, x::scarcest);
    }

    private static void canPay() {
        about("promise 16");
        StampVendor x = machineWithRoom(12, 25, 12, 1, 1);
        due("1", true, () -> x.canPay(1));
        due("2", false, () -> x.canPay(2));
        due("299", false, () -> x.canPay(299));
        due("300, all the room", true, () -> x.canPay(300));
        x.setRoom(11);
        due("300, one room less", false, () -> x.canPay(300));
        due("251, all that room", true, () -> x.canPay(251));
        due("without stamps", false, () -> new StampVendor().canPay(1));
        dueThrow("0", BAD_ARGUMENT, x, () -> x.canPay(0));
        dueThrow("301", BAD_ARGUMENT, x, () -> x.canPay(301));
    }

    private static void overpay() {
        about("promise 17, -1 if it gets none");
        StampVendor x = machine(7, 3);
        due("21", 0, () -> x.overpay(21));
        due("22", -1, () -> x.overpay(22));
        due("20", 1, () -> x.overpay(20));
        due("15, the most for these", 6, () -> x.overpay(15));
        due("14", 0, () -> x.overpay(14));
        due("without stamps", -1, () -> new StampVendor().overpay(1));
        due("none in stock", -1, () -> machine(7, 0).overpay(1));
        dueThrow("0", BAD_ARGUMENT, x, () -> x.overpay(0));
        dueThrow("301", BAD_ARGUMENT, x, () -> x.overpay(301));
    }

    private static void stampsFor() {
        about("promise 18, 0 if it gets none");
        StampVendor x = machineWithRoom(12, 25, 99);
        due("1", 1, () -> x.stampsFor(1));
        due("25", 1, () -> x.stampsFor(25));
        due("26", 2, () -> x.stampsFor(26));
        due("300", 12, () -> x.stampsFor(300));
        x.setRoom(11);
        due("275, with room 11", 11, () -> x.stampsFor(275));
        due("276, with room 11", 0, () -> x.stampsFor(276));
        due("without stamps", 0, () -> new StampVendor().stampsFor(1));
        dueThrow("0", BAD_ARGUMENT, x, () -> x.stampsFor(0));
        dueThrow("301", BAD_ARGUMENT, x, () -> x.stampsFor(301));
    }

    private static void ofStampFor() {
        about("promise 19, 0 if it gets none");
        StampVendor x = machineWithRoom(12, 10, 2, 20, 1, 30, 0);
        due("40: of the 10", 2, () -> x.ofStampFor(40, 0));
        due("40: of the 20", 1, () -> x.ofStampFor(40, 1));
        due("40: of the 30", 0, () -> x.ofStampFor(40, 2));
        for (int stamp = 0; stamp < 3; stamp++) {
            int number = stamp;
            due("41: of " + stamp, 0, () -> x.ofStampFor(41, number));
        }
        about("promise 19, if there is no such stamp");
        for (int stamp : NO_STAMPS_OF_THREE) {
            dueThrow("stamp " + stamp, NO_SUCH_STAMP, x, () -> x.ofStampFor(40, stamp));
            dueThrow("stamp " + stamp + ", where it gets none", NO_SUCH_STAMP, x, () -> x.ofStampFor(41, stamp));
        }
        due("the last of 8", 1, () -> machineOfEight().ofStampFor(12, 7));
        due("behind the last of 8", NO_SUCH_STAMP, () -> machineOfEight().ofStampFor(12, 8));
        about("promise 19, if postage is not 1 to 300");
        dueThrow("0", BAD_ARGUMENT, x, () -> x.ofStampFor(0, 2));
        dueThrow("301", BAD_ARGUMENT, x, () -> x.ofStampFor(301, 2));
    }

    private static void reachNow() {
        about("promise 20");
        due("up to all there is", 7, () -> machine(1, 1, 2, 1, 4, 1).reachNow());
        due("a gap of one", 7, () -> machine(1, 1, 2, 1, 4, 1, 9, 1).reachNow());
        due("no gap", 15, () -> machine(1, 1, 2, 1, 4, 1, 8, 1).reachNow());
        due("room for 3 of the 4", 6, () -> machineWithRoom(2, 1, 1, 2, 1, 4, 1, 8, 1).reachNow());
        due("the print is no matter", 1, () -> machine(1, 1, 3, 9).reachNow());
    }

    private static void most() {
        about("promise 21");
        due("without stamps", 0, () -> new StampVendor().most());
        due("none in stock", 0, () -> machine(60, 0).most());
        due("fewer than the room", 5 * 60, () -> machine(60, 5).most());
        due("as many as the room", 6 * 60, () -> machine(60, 6).most());
        due("more than the room", 6 * 60, () -> machine(60, 7).most());
        due("the rest by the next value", 5 * 60 + 59, () -> machine(1, 9, 59, 9, 60, 5).most());
        due("the rest by all that follow", 60 + 59 + 58 + 3, () -> machine(1, 9, 58, 1, 59, 1, 60, 1).most());
        due("the greatest of all", 720, () -> machineWithRoom(12, 60, 99).most());
    }

    private static void fewest() {
        about("promise 22, -1 if it cannot be");
        StampVendor x = machineWithRoom(12, 25, 0);
        due("24", -1, () -> x.fewest(24));
        due("25", 1, () -> x.fewest(25));
        due("26", -1, () -> x.fewest(26));
        due("275", 11, () -> x.fewest(275));
        due("300", 12, () -> x.fewest(300));
        x.setRoom(11);
        due("275, with room 11", 11, () -> x.fewest(275));
        due("300, with room 11", -1, () -> x.fewest(300));
        due("of two choices the fewest", 2, () -> machine(1, 0, 5, 0, 6, 0).fewest(10));
        due("without stamps", -1, () -> new StampVendor().fewest(300));
        dueThrow("0", BAD_ARGUMENT, x, () -> x.fewest(0));
        dueThrow("301", BAD_ARGUMENT, x, () -> x.fewest(301));
    }

    private static void ways() {
        about("promise 23");
        due("without stamps", 0, () -> new StampVendor().ways(1));
        due("no way", 0, () -> machine(7, 0).ways(8));
        due("one way", 1, () -> machine(7, 0).ways(7));
        due("seven 8s or eight 7s", 2, () -> machineWithRoom(8, 7, 0, 8, 0).ways(56));
        due("seven 8s alone, with room 7", 1, () -> machineWithRoom(7, 7, 0, 8, 0).ways(56));
        due("7 by 1, 2 and 4", 6, () -> machineWithRoom(12, 1, 0, 2, 0, 4, 0).ways(7));
        due("the same with room 3: 4 + 2 + 1", 1, () -> machineWithRoom(3, 1, 0, 2, 0, 4, 0).ways(7));
        due("the same with room 2", 0, () -> machineWithRoom(2, 1, 0, 2, 0, 4, 0).ways(7));
        StampVendor x = machineWithRoom(12, 1, 0, 2, 0, 3, 0, 4, 0, 5, 0, 6, 0, 7, 0, 8, 0);
        due("the most that 8 stamps give", 3788, () -> x.ways(48));
        due("300 by twelve", 1, () -> machineWithRoom(12, 25, 0).ways(300));
        due("300 by twelve, with room 11", 0, () -> machineWithRoom(11, 25, 0).ways(300));
        StampVendor again = machine(1, 0, 2, 0);
        due("12, all six are 2s", 1, () -> again.ways(12));
        due("12 asked again", 1, () -> again.ways(12));
        due("11, five 2s and a 1", 1, () -> again.ways(11));
        dueThrow("0", BAD_ARGUMENT, x, () -> x.ways(0));
        dueThrow("301", BAD_ARGUMENT, x, () -> x.ways(301));
    }

    private static void reach() {
        about("promise 24");
        due("by the room", 6, () -> machine(1, 0).reach());
        due("a gap behind it: 3 without a 2", 1, () -> machineWithRoom(1, 1, 0, 3, 0).reach());
        due("no gap", 3, () -> machineWithRoom(1, 1, 0, 2, 0, 3, 0).reach());
        due("the stock is no matter", 12, () -> machineWithRoom(12, 1, 1).reach());
    }

    private static void gapFrom() {
        about("promise 25, from this one on to 300");
        StampVendor x = machineWithRoom(10, 1, 0, 2, 0, 8, 0, 17, 0, 45, 0);
        due("the gap 300 from 1", 300, () -> x.gapFrom(1));
        due("the gap 300 from 299", 300, () -> x.gapFrom(299));
        due("the gap 300 from 300", 300, () -> x.gapFrom(300));
        StampVendor y = machineWithRoom(1, 5, 0, 6, 0);
        due("from one before a gap", 4, () -> y.gapFrom(4));
        due("from what can be paid", 7, () -> y.gapFrom(5));
        due("from the gap behind it", 7, () -> y.gapFrom(7));
        due("from 1", 1, () -> y.gapFrom(1));
        about("promise 25, -1 if there is none");
        x.setRoom(11);
        due("from 1", -1, () -> x.gapFrom(1));
        due("from 300", -1, () -> x.gapFrom(300));
        StampVendor fifty = machine(50, 0);
        due("from 299, which is a gap", 299, () -> fifty.gapFrom(299));
        due("from 300, which is none", -1, () -> fifty.gapFrom(300));
        due("without stamps", 300, () -> new StampVendor().gapFrom(300));
        dueThrow("0", BAD_ARGUMENT, x, () -> x.gapFrom(0));
        dueThrow("301", BAD_ARGUMENT, x, () -> x.gapFrom(301));
    }

    private static void gapsTo() {
        about("promise 26");
        StampVendor x = machineWithRoom(10, 1, 0, 2, 0, 8, 0, 17, 0, 45, 0);
        due("to 299, none", 0, () -> x.gapsTo(299));
        due("to 300, that one", 1, () -> x.gapsTo(300));
        due("to 1, which can be paid", 0, () -> x.gapsTo(1));
        due("to 1, which cannot", 1, () -> machine(2, 0).gapsTo(1));
        due("without stamps, all", 300, () -> new StampVendor().gapsTo(300));
        due("without stamps, to 299", 299, () -> new StampVendor().gapsTo(299));
        dueThrow("0", BAD_ARGUMENT, x, () -> x.gapsTo(0));
        dueThrow("301", BAD_ARGUMENT, x, () -> x.gapsTo(301));
    }

    private static void lettersOfAtMostFifty() {
        about("promise 27, at most 50");
        int[] stocks = {0, 1, 48, 49, 50, 51, 99};
        int[] letters = {0, 1, 48, 49, 50, 50, 50};
        for (int i = 0; i < stocks.length; i++) {
            StampVendor x = machine(60, stocks[i]);
            due("a stamp a letter, of " + stocks[i], letters[i], () -> x.lettersOf(60));
        }
        due("two a letter, of 98", 49, () -> machine(1, 98).lettersOf(2));
        due("two a letter, of 99", 49, () -> machine(1, 99).lettersOf(2));
        due("24 and 25", 49, () -> machine(1, 24, 2, 25).lettersOf(1));
        due("25 and 25", 50, () -> machine(1, 25, 2, 25).lettersOf(1));
        due("25 and 26", 50, () -> machine(1, 25, 2, 26).lettersOf(1));
        due("eight stamps of 7", 50, () -> machine(1, 7, 2, 7, 3, 7, 4, 7, 5, 7, 6, 7, 7, 7, 8, 7).lettersOf(1));
        due("eight stamps of 6", 48, () -> machine(1, 6, 2, 6, 3, 6, 4, 6, 5, 6, 6, 6, 7, 6, 8, 6).lettersOf(1));
    }

    private static void lettersOfOneBehindTheOther() {
        about("promise 27, one behind the other");
        // 12 = 6 + 6 four times, 6 + 5 + 1, 5 + 5 + 1 + 1; the 5 and the six 1s that are left are too little.
        due("each of what is left", 6, () -> machine(6, 9, 5, 4, 1, 9).lettersOf(12));
        due("the last is overpaid", 3, () -> machine(10, 2, 60, 1).lettersOf(10));
        due("10 + 5 and 10 + 10, a 10 is left", 2, () -> machineWithRoom(2, 10, 4, 5, 1).lettersOf(15));
        due("10 + 5 and 10 + 10 twice", 3, () -> machineWithRoom(2, 10, 5, 5, 1).lettersOf(15));
        due("without stamps", 0, () -> new StampVendor().lettersOf(1));
        StampVendor x = machine(10, 1);
        dueThrow("0", BAD_ARGUMENT, x, () -> x.lettersOf(0));
        dueThrow("301", BAD_ARGUMENT, x, () -> x.lettersOf(301));
        due("1", 1, () -> x.lettersOf(1));
        due("300", 0, () -> x.lettersOf(300));
    }

    private static void lettersOfChangesNothing() {
        about("promise 27, nothing is changed");
        StampVendor x = machine(6, 9, 5, 4, 1, 9);
        x.vend(7);
        String before = seen(x);
        due("lettersOf", 4, () -> x.lettersOf(17));
        due("all that is seen", before, () -> seen(x));
        due("lettersOf again", 4, () -> x.lettersOf(17));
        x.vend(17);
        due("lettersOf, one letter later", 3, () -> x.lettersOf(17));
    }

    private static void bestValueOneToSixty() {
        about("promise 28, the value, 1 to 60");
        due("1", 1, () -> new StampVendor().bestValue());
        due("1, where 1 is not there", 1, () -> machine(2, 0, 3, 0).bestValue());
        StampVendor sixty = machineWithRoom(5, 1, 0, 2, 0, 3, 0, 7, 0, 13, 0, 31, 0, 43, 0);
        due("60 is allowed", 60, sixty::bestValue);
        StampVendor x = machine(1, 0, 6, 0, 7, 0, 14, 0, 17, 0, 19, 0);
        due("61 would be better, and is not allowed", 60, x::bestValue);
        x.addStamp(60, 0);
        due("what 60 gives", 225, x::reach);
    }

    private static void bestValueThatNoStampHas() {
        about("promise 28, that no stamp has");
        due("room 1, beside 1", 2, () -> machineWithRoom(1, 1, 0).bestValue());
        due("room 1, beside 1 to 7", 8, () -> machineWithRoom(1, 1, 0, 2, 0, 3, 0, 4, 0, 5, 0, 6, 0, 7, 0).bestValue());
        due("room 1, beside 1, 2 and 4", 3, () -> machineWithRoom(1, 1, 0, 2, 0, 4, 0).bestValue());
        due("no gain, beside 2", 1, () -> machineWithRoom(1, 2, 0).bestValue());
        StampVendor all = machineWithRoom(12, 1, 0, 2, 0, 5, 0, 10, 0, 20, 0, 40, 0, 60, 0);
        due("no gain, as the reach is 300", 3, all::bestValue);
        all.withdraw(0);
        due("1 was withdrawn", 1, all::bestValue);
    }

    private static void bestValueOfSeveralTheSmallest() {
        about("promise 28, of several the smallest");
        // With 2: 1, 2, 1 + 2, 2 + 2. With 3: 1, 1 + 1, 3, 1 + 3.
        due("2 and 3 give 4", 2, () -> machineWithRoom(2, 1, 0).bestValue());
        // With 2 to 6 = 2 + 2 + 2, with 3 to 7 = 3 + 3 + 1, with 4 to 6 = 4 + 1 + 1.
        due("3 gives more than 2 and 4", 3, () -> machineWithRoom(3, 1, 0).bestValue());
        due("2 and 3 give 11, as four 3s have no room", 2, () -> machineWithRoom(3, 1, 0, 7, 0).bestValue());
        due("all give 300", 3, () -> machineWithRoom(12, 1, 0, 2, 0, 5, 0, 10, 0, 20, 0, 40, 0, 60, 0).bestValue());
    }

    private static void bestValueWithTheGreatestReach() {
        about("promise 28, the reach would be the greatest");
        StampVendor x = machineWithRoom(10, 1, 0, 9, 0, 16, 0, 40, 0);
        due("19 gives 300, 13 gives 299 alone", 19, x::bestValue);
        x.addStamp(13, 0);
        due("what 13 gives", 299, x::reach);
        x.withdraw(4);
        x.addStamp(19, 0);
        due("what 19 gives", 300, x::reach);
    }

    private static void bestValueWhetherThereAre8OrNot() {
        about("promise 28, whether there are 8 or not");
        // Room 2: 1 to 8 reach 16; a 17 leads on to 25, a 16 to 24, and an 18 leaves the gap 17.
        StampVendor eight = machineWithRoom(2, 1, 0, 2, 0, 3, 0, 4, 0, 5, 0, 6, 0, 7, 0, 8, 0);
        due("8", 17, eight::bestValue);
        due("there is no room for it", BAD_STATE, () -> eight.addStamp(17, 0));
        eight.withdraw(7);
        due("7", 15, eight::bestValue);
        due("there is room for it", 7, () -> eight.addStamp(15, 0));
        due("what 15 gives", 22, eight::reach);
    }

    private static void bestValueChangesNothing() {
        about("promise 28, nothing is changed");
        StampVendor x = machineOfEight();
        x.vend(100);
        String before = seen(x);
        x.bestValue();
        due("all that is seen", before, () -> seen(x));
    }

    private static void bestToPrintTwentyMore() {
        about("promise 29, 20 more");
        // Twelve more of the 4 are needed, all that there is room for: with eleven the 5 would be the best.
        due("20, not 11", 0, () -> machineWithRoom(12, 4, 0, 1, 9, 5, 2).bestToPrint());
        due("beside 99 in stock", 1, () -> machine(1, 99, 2, 0).bestToPrint());
        due("where 20 more would be over 99", 0, () -> machine(1, 80, 2, 99).bestToPrint());
        StampVendor x = machineWithRoom(12, 1, 0, 2, 0);
        due("a 1 is better than a 2", 0, x::bestToPrint);
        x.print(0, 1);
        due("a 2 is better, if there is a 1", 1, x::bestToPrint);
    }

    private static void bestToPrintOfSeveralTheSmallestNumber() {
        about("promise 29, of several the smallest number");
        due("no reach at all", 0, () -> machine(5, 1, 7, 0, 9, 2).bestToPrint());
        due("room 1, both are there", 0, () -> machineWithRoom(1, 1, 1, 2, 1).bestToPrint());
        due("room 1, turned", 0, () -> machineWithRoom(1, 2, 1, 1, 1).bestToPrint());
        due("room 1, the 2 is not there", 1, () -> machineWithRoom(1, 1, 1, 2, 0).bestToPrint());
        due("room 1, the last of 8", 7, () -> machineWithRoom(1, 1, 1, 2, 1, 3, 1, 4, 1, 5, 1, 6, 1, 7, 1, 8, 0)
            .bestToPrint());
        due("room 1, none of 8", 0, () -> machineWithRoom(1, 1, 1, 2, 1, 3, 1, 4, 1, 5, 1, 6, 1, 7, 1, 8, 1)
            .bestToPrint());
    }

    private static void bestToPrintWithoutStamps() {
        about("promise 29, -1 without stamps");
        StampVendor x = new StampVendor();
        due("a new one", -1, x::bestToPrint);
        x.addStamp(9, 0);
        due("one stamp", 0, x::bestToPrint);
        x.withdraw(0);
        due("none again", -1, x::bestToPrint);
    }

    private static void bestToPrintChangesNothing() {
        about("promise 29, nothing is changed");
        StampVendor x = machine(1, 0, 5, 98, 12, 4);
        x.vend(24);
        String before = seen(x);
        due("the 1", 0, x::bestToPrint);
        due("all that is seen", before, () -> seen(x));
        due("the stock of the 1", 0, () -> x.stockOf(0));
        due("the stock of the 5", 98, () -> x.stockOf(1));
    }

    private static void reachWithRoomOneToTwelve() {
        about("promise 30, if room is not 1 to 12");
        StampVendor x = machine(1, 0);
        dueThrow("0", BAD_ARGUMENT, x, () -> x.reachWithRoom(0));
        dueThrow("13", BAD_ARGUMENT, x, () -> x.reachWithRoom(13));
        for (int room : FAR_OFF) {
            dueThrow("room " + room, BAD_ARGUMENT, x, () -> x.reachWithRoom(room));
        }
        for (int room = 1; room <= 12; room++) {
            int asked = room;
            due("room " + room, asked, () -> x.reachWithRoom(asked));
        }
    }

    private static void reachWithRoomOfTheStampsOfNow() {
        about("promise 30, the stamps of now");
        StampVendor x = new StampVendor();
        due("without stamps", 0, () -> x.reachWithRoom(2));
        x.addStamp(1, 0);
        due("1", 2, () -> x.reachWithRoom(2));
        x.addStamp(3, 0);
        due("1 and 3", 4, () -> x.reachWithRoom(2));
        x.withdraw(0);
        due("3", 0, () -> x.reachWithRoom(2));
    }

    private static void reachWithRoomChangesNothing() {
        about("promise 30, nothing is changed");
        StampVendor x = machine(1, 99);
        String before = seen(x);
        x.reachWithRoom(12);
        due("room", 6, x::room);
        due("reach", 6, x::reach);
        due("all that is seen", before, () -> seen(x));
    }

    private static void meanValue() {
        about("promise 31, 0 without any");
        StampVendor x = new StampVendor();
        due("a new one", 0.0, x::meanValue);
        x.addStamp(60, 0);
        due("one stamp, none in stock", 60.0, x::meanValue);
        x.addStamp(1, 99);
        due("a half", 30.5, x::meanValue);
        x.addStamp(2, 1);
        due("two values less", 21.0, x::meanValue);
        x.withdraw(0);
        due("without the 60", 1.5, x::meanValue);
        x.withdraw(0);
        x.withdraw(0);
        due("none again", 0.0, x::meanValue);
        about("promise 31, the mean");
        due("not a whole number", 7 / 3.0, () -> machine(1, 1, 2, 1, 4, 1).meanValue());
        due("the greatest of 8", 56.5, () -> machine(60, 0, 59, 0, 58, 0, 57, 0, 56, 0, 55, 0, 54, 0, 53, 0)
            .meanValue());
    }

    private static void digestOfANewMachine() {
        about("promise 32, a machine without stamps");
        List<Integer> numbers = new ArrayList<>(List.of(0, 6, 0, 0, 0, -1, 0, 0, 0, 1, -1));
        for (int postage = 25; postage <= 300; postage += 25) {
            numbers.addAll(List.of(-1, 0, -1));
        }
        due("a new one", wrapped(numbers), () -> new StampVendor().digest());
        StampVendor x = machine(10, 0);
        x.withdraw(0);
        due("its only stamp is withdrawn", wrapped(numbers), x::digest);
    }

    private static void digestWrapsAroundAt64Bits() {
        about("promise 32, wraps around as a 64-bit integer");
        // One 60 in room for one: it pays 60 alone, and each postage up to 60 gets it.
        List<Integer> numbers = new ArrayList<>(List.of(1, 1, 0, 0, 0, 0, 0, 60, 0, 1, 0, 60, 1, 0));
        numbers.addAll(List.of(35, 1, -1, 10, 1, -1));
        for (int postage = 75; postage <= 300; postage += 25) {
            numbers.addAll(List.of(-1, 0, -1));
        }
        due("one stamp", wrapped(numbers), () -> machineWithRoom(1, 60, 1).digest());
        BigInteger unwrapped = sum(numbers);
        due("it is a wrap indeed", true, () -> unwrapped.bitLength() > 64);
    }

    private static void digestHoldsEachNumber() {
        about("promise 32, each number");
        StampVendor x = machine(10, 3, 4, 4, 35, 9, 1, 99);
        x.vend(9);
        x.vend(123);
        due("four stamps", digestByFace(x), x::digest);
        x.vend(34);
        due("overpaid by 1", 1, x::overpaid);
        due("three letters, the last overpaid", digestByFace(x), x::digest);
        x.setRoom(12);
        due("another room", digestByFace(x), x::digest);
        x.print(1, 90);
        due("more in stock", digestByFace(x), x::digest);
        x.withdraw(0);
        due("a stamp less", digestByFace(x), x::digest);
        StampVendor eight = machineOfEight();
        due("eight stamps", digestByFace(eight), eight::digest);
        eight.vend(300);
        due("eight stamps, 300 vended", digestByFace(eight), eight::digest);
        StampVendor last = machine(10, 9, 25, 0);
        due("the last stamp is not in stock", digestByFace(last), last::digest);
    }

    private static BigInteger sum(List<Integer> numbers) {
        BigInteger d = BigInteger.valueOf(2129);
        for (int number : numbers) {
            d = d.multiply(BigInteger.valueOf(31)).add(BigInteger.valueOf(number));
        }
        return d;
    }

    /** longValue keeps the lowest 64 bits: that is the wrap-around. */
    private static long wrapped(List<Integer> numbers) {
        return sum(numbers).longValue();
    }

    private static long digestByFace(StampVendor x) {
        List<Integer> numbers = new ArrayList<>(List.of(x.stamps(), x.room(), x.letters(), x.taken(), x.overpaid()));
        numbers.addAll(List.of(x.scarcest(), x.reachNow(), x.most(), x.reach(), x.bestValue(), x.bestToPrint()));
        for (int stamp = 0; stamp < x.stamps(); stamp++) {
            numbers.addAll(List.of(x.valueOf(stamp), x.stockOf(stamp), x.vendedOf(stamp)));
        }
        for (int postage = 25; postage <= 300; postage += 25) {
            numbers.addAll(List.of(x.overpay(postage), x.stampsFor(postage), x.fewest(postage)));
        }
        return wrapped(numbers);
    }
}
