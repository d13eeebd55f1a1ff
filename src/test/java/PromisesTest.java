/** Each promise of the document by itself: ordinary inputs, the edges, and wrong inputs. */
public final class PromisesTest extends Machines {
    private static final int[] BAD_POSTAGES = {0, -1, 301, Integer.MIN_VALUE, Integer.MAX_VALUE};
    private static final int[] BAD_ROOMS = {0, -1, 13, Integer.MIN_VALUE, Integer.MAX_VALUE};

    private PromisesTest() {
    }

    public static void main(String[] args) {
        promise1();
        promise2();
        promise3();
        promise4();
        promise5();
        promise6();
        promise6Choice();
        promises7And8();
        promises9To11();
        promises12To14();
        promise15();
        promise16();
        promise17();
        promise18();
        promise19();
        promise20();
        promise21();
        promise22();
        promise23();
        promise24();
        promise25();
        promise26();
        promise27();
        promise28();
        promise29();
        promise30();
        promise31();
        promise32();
        questionsChangeNothing();
        Check.finish("PromisesTest");
    }

    private static void promise1() {
        about("promise 1");
        StampVendor x = new StampVendor();
        due("stamps", 0, x::stamps);
        due("room", 6, x::room);
        due("letters", 0, x::letters);
        due("taken", 0, x::taken);
        due("overpaid", 0, x::overpaid);
        due("two machines are apart", 0, () -> {
            StampVendor other = machine(5, 5);
            other.vend(5);
            return x.stamps() + x.letters();
        });
    }

    private static void promise2() {
        about("promise 2");
        StampVendor x = new StampVendor();
        dueThrow("value 0", BAD_ARGUMENT, x, () -> x.addStamp(0, 1));
        dueThrow("value 61", BAD_ARGUMENT, x, () -> x.addStamp(61, 1));
        dueThrow("value -5", BAD_ARGUMENT, x, () -> x.addStamp(-5, 1));
        dueThrow("stock -1", BAD_ARGUMENT, x, () -> x.addStamp(5, -1));
        dueThrow("stock 100", BAD_ARGUMENT, x, () -> x.addStamp(5, 100));
        due("value 1, stock 0", 0, () -> x.addStamp(1, 0));
        due("value 60, stock 99", 1, () -> x.addStamp(60, 99));
        due("its value", 60, () -> x.valueOf(1));
        due("its stock", 99, () -> x.stockOf(1));
        due("its vended", 0, () -> x.vendedOf(1));
        due("stock of the one before", 0, () -> x.stockOf(0));
        dueThrow("the same value", BAD_STATE, x, () -> x.addStamp(60, 3));
        dueThrow("the same value, bad stock", BAD_ARGUMENT, x, () -> x.addStamp(60, 100));
        for (int i = 2; i < 8; i++) {
            int stamp = i;
            due("stamp " + i, i, () -> x.addStamp(10 + stamp, stamp));
        }
        dueThrow("a ninth", BAD_STATE, x, () -> x.addStamp(50, 1));
        dueThrow("a ninth, bad value", BAD_ARGUMENT, x, () -> x.addStamp(61, 1));
        x.withdraw(1);
        due("one more after a withdrawal", 7, () -> x.addStamp(60, 4));
        due("its stock", 4, () -> x.stockOf(7));
    }

    private static void promise3() {
        about("promise 3");
        StampVendor x = machine(10, 5, 20, 7, 30, 9);
        dueThrow("-1", NO_SUCH_STAMP, x, () -> x.withdraw(-1));
        dueThrow("3 of 3", NO_SUCH_STAMP, x, () -> x.withdraw(3));
        x.vend(60);
        x.vend(20);
        due("stock of the second", 6, () -> x.withdraw(1));
        due("stamps", 2, x::stamps);
        due("number 0 stays", 10, () -> x.valueOf(0));
        due("the one behind has number 1", 30, () -> x.valueOf(1));
        due("its stock", 7, () -> x.stockOf(1));
        due("its vended", 2, () -> x.vendedOf(1));
        due("letters stay", 2, x::letters);
        due("taken stays", 80, x::taken);
        due("no number 2", NO_SUCH_STAMP, () -> x.valueOf(2));
        due("its value is gone", false, () -> x.canPay(20) && x.stockOf(0) < 2);
        x.addStamp(20, 1);
        due("a new one with the value was not vended", 0, () -> x.vendedOf(2));
        due("the last", 1, () -> x.withdraw(2));
        due("the first", 5, () -> x.withdraw(0));
        due("the only one", 7, () -> x.withdraw(0));
        due("none left", NO_SUCH_STAMP, () -> x.withdraw(0));
        StampVendor eight = machineOfEight();
        due("the last of 8", 3, () -> eight.withdraw(7));
        due("the first of 7", 3, () -> eight.withdraw(0));
        due("then number 5", 45, () -> eight.valueOf(5));
    }

    private static void promise4() {
        about("promise 4");
        StampVendor x = machine(10, 0, 20, 90);
        due("1 more", 1, () -> x.print(0, 1));
        due("its stock", 1, () -> x.stockOf(0));
        due("up to 99", 99, () -> x.print(1, 9));
        due("at most 99", 99, () -> x.print(1, 99));
        due("its stock", 99, () -> x.stockOf(1));
        due("98 more", 99, () -> x.print(0, 98));
        StampVendor y = machine(10, 50);
        due("99 more of 50", 99, () -> y.print(0, 99));
        dueThrow("stamp -1", NO_SUCH_STAMP, y, () -> y.print(-1, 5));
        dueThrow("stamp 1 of 1", NO_SUCH_STAMP, y, () -> y.print(1, 5));
        dueThrow("many 0", BAD_ARGUMENT, y, () -> y.print(0, 0));
        dueThrow("many -1", BAD_ARGUMENT, y, () -> y.print(0, -1));
        dueThrow("many 100", BAD_ARGUMENT, y, () -> y.print(0, 100));
        dueThrow("many MAX", BAD_ARGUMENT, y, () -> y.print(0, Integer.MAX_VALUE));
        dueThrow("both wrong", NO_SUCH_STAMP, y, () -> y.print(1, 0));
    }

    private static void promise5() {
        about("promise 5");
        StampVendor x = machine(10, 12);
        due("1", 6, () -> x.setRoom(1));
        due("room", 1, x::room);
        due("it counts", -1, () -> x.overpay(11));
        due("12", 1, () -> x.setRoom(12));
        due("it counts", 0, () -> x.overpay(120));
        for (int room : BAD_ROOMS) {
            dueThrow("room " + room, BAD_ARGUMENT, x, () -> x.setRoom(room));
        }
    }

    private static void promise6() {
        about("promise 6");
        StampVendor x = machine(1, 4, 5, 3, 12, 2);
        for (int postage : BAD_POSTAGES) {
            dueThrow("postage " + postage, BAD_ARGUMENT, x, () -> x.vend(postage));
        }
        due("22 = 12 + 5 + 5", 0, () -> x.vend(22));
        due("of the 1", 4, () -> x.stockOf(0));
        due("of the 5", 1, () -> x.stockOf(1));
        due("of the 12", 1, () -> x.stockOf(2));
        due("vended of the 5", 2, () -> x.vendedOf(1));
        due("vended of the 1", 0, () -> x.vendedOf(0));
        due("all 6 of them, 21", 0, () -> x.vend(21));
        dueThrow("none in stock", BAD_STATE, x, () -> x.vend(1));
        StampVendor y = machineWithRoom(2, 10, 9);
        due("overpaid by 9", 9, () -> y.vend(11));
        dueThrow("no room for so many", BAD_STATE, y, () -> y.vend(21));
        due("all the room", 0, () -> y.vend(20));
        StampVendor none = new StampVendor();
        dueThrow("without stamps", BAD_STATE, none, () -> none.vend(1));
        dueThrow("without stamps, bad postage", BAD_ARGUMENT, none, () -> none.vend(0));
        StampVendor great = machine(60, 6, 59, 6);
        due("300 of six", 0, () -> great.vend(300));
        due("59s and one 60 for 296", 0, () -> great.vend(296));
        due("one 60 more than 300", BAD_STATE, () -> great.vend(300));
        due("the sum may be over 300", 54, () -> machine(59, 6).vend(300));
        due("59 more", 59, () -> machine(60, 5).vend(241));
        StampVendor most = machine(5, 9, 7, 9, 9, 9);
        due("23 = 9 + 9 + 5 before 9 + 7 + 7", 0, () -> most.vend(23));
        due("two 9s", 2, () -> most.vendedOf(2));
    }

    /** What a letter gets: the least sum, then the fewest stamps, then the most of the greatest values. */
    private static void promise6Choice() {
        about("promise 6");
        StampVendor sum = machine(10, 1, 3, 4);
        due("the least sum goes before the fewest stamps", 0, () -> sum.vend(9));
        due("three 3s", 1, () -> sum.stockOf(1));
        StampVendor few = machine(3, 6, 4, 6, 6, 6);
        due("the fewest stamps", 0, () -> few.vend(12));
        due("two 6s", 4, () -> few.stockOf(2));
        StampVendor tie = machine(5, 9, 7, 9, 9, 9);
        due("14 = 9 + 5 before 7 + 7", 0, () -> tie.vend(14));
        due("one 9", 1, () -> tie.vendedOf(2));
        due("one 5", 1, () -> tie.vendedOf(0));
        StampVendor turned = machine(9, 9, 7, 9, 5, 9);
        due("the same with other numbers", 0, () -> turned.vend(14));
        due("one 9", 1, () -> turned.vendedOf(0));
        StampVendor next = machine(20, 9, 11, 9, 10, 9, 9, 9);
        due("40 = 20 + 20", 0, () -> next.vend(40));
        due("two 20s", 2, () -> next.vendedOf(0));
        due("30 = 20 + 10, two stamps", 0, () -> next.vend(30));
        due("one 10", 1, () -> next.vendedOf(2));
        StampVendor second = machine(20, 1, 11, 9, 10, 9, 9, 9);
        due("40 = 20 + 11 + 9 before 20 + 10 + 10", 0, () -> second.vend(40));
        due("one 11", 1, () -> second.vendedOf(1));
        due("no 10", 0, () -> second.vendedOf(2));
        StampVendor greedy = machine(6, 9, 5, 9, 1, 9);
        due("10 = 5 + 5 before 6 and four 1s", 0, () -> greedy.vend(10));
        due("no 6", 0, () -> greedy.vendedOf(0));
        StampVendor exactByStock = machineWithRoom(3, 4, 2, 6, 1);
        due("12 has no exact choice: 14 = 6 + 4 + 4", 2, () -> exactByStock.vend(12));
    }

    private static void promises7And8() {
        about("promise 7");
        due("eight", 8, () -> machineOfEight().stamps());
        due("three", 3, () -> machine(1, 0, 2, 0, 3, 0).stamps());
        about("promise 8");
        due("at first", 6, () -> machine(1, 1).room());
        due("then", 9, () -> machineWithRoom(9).room());
    }

    private static void promises9To11() {
        StampVendor x = machineOfEight();
        for (int i = 0; i < 8; i++) {
            int stamp = i;
            about("promise 9");
            due("value of " + i, EIGHT_VALUES[i], () -> x.valueOf(stamp));
            about("promise 10");
            due("stock of " + i, 3, () -> x.stockOf(stamp));
            about("promise 11");
            due("vended of " + i, 0, () -> x.vendedOf(stamp));
        }
        x.vend(120);
        about("promise 10");
        due("stock after vending", 1, () -> x.stockOf(0));
        about("promise 11");
        due("vended after vending", 2, () -> x.vendedOf(0));
        x.vend(60);
        x.print(0, 50);
        due("vended after more of it and a print", 3, () -> x.vendedOf(0));
        StampVendor few = machine(10, 1, 20, 2);
        for (int bad : new int[] {-1, 2, 8, Integer.MIN_VALUE, Integer.MAX_VALUE}) {
            about("promise 9");
            dueThrow("value of " + bad, NO_SUCH_STAMP, few, () -> few.valueOf(bad));
            about("promise 10");
            dueThrow("stock of " + bad, NO_SUCH_STAMP, few, () -> few.stockOf(bad));
            about("promise 11");
            dueThrow("vended of " + bad, NO_SUCH_STAMP, few, () -> few.vendedOf(bad));
        }
    }

    private static void promises12To14() {
        StampVendor x = machine(10, 3, 4, 2);
        x.vend(7);
        x.vend(19);
        about("promise 12");
        due("letters", 2, x::letters);
        about("promise 13");
        due("8 + 20", 28, x::taken);
        about("promise 14");
        due("1 + 1", 2, x::overpaid);
        x.vend(1);
        Check.answer(() -> x.vend(1));
        about("promise 12");
        due("one more, and one that failed", 3, x::letters);
        about("promise 13");
        due("10 more", 38, x::taken);
        about("promise 14");
        due("9 more", 11, x::overpaid);
        x.withdraw(0);
        about("promise 13");
        due("a withdrawn stamp was taken still", 38, x::taken);
        about("promise 14");
        due("and overpaid still", 11, x::overpaid);
        about("promise 12");
        due("and vended for still", 3, x::letters);
    }

    private static void promise15() {
        about("promise 15");
        due("without stamps", -1, () -> new StampVendor().scarcest());
        due("the fewest", 1, () -> machine(10, 5, 20, 3, 30, 4).scarcest());
        due("the smallest number of several", 1, () -> machine(10, 5, 20, 3, 30, 3).scarcest());
        due("all 99", 0, () -> machine(10, 99, 20, 99).scarcest());
        due("none of it left", 2, () -> machine(10, 1, 20, 3, 30, 0).scarcest());
    }

    private static void promise16() {
        about("promise 16");
        StampVendor x = machine(4, 2, 10, 1);
        due("4", true, () -> x.canPay(4));
        due("8", true, () -> x.canPay(8));
        due("12, over the stock", false, () -> x.canPay(12));
        due("18, all of it", true, () -> x.canPay(18));
        due("9, covered only", false, () -> x.canPay(9));
        due("too little room", false, () -> machineWithRoom(2, 4, 2, 10, 1).canPay(18));
        due("room enough", true, () -> machineWithRoom(3, 4, 2, 10, 1).canPay(18));
        due("300", true, () -> machine(50, 6).canPay(300));
        due("without stamps", false, () -> new StampVendor().canPay(1));
        for (int postage : BAD_POSTAGES) {
            dueThrow("postage " + postage, BAD_ARGUMENT, x, () -> x.canPay(postage));
        }
    }

    private static void promise17() {
        about("promise 17");
        StampVendor x = machine(4, 2, 10, 1);
        due("exactly", 0, () -> x.overpay(14));
        due("by the least", 1, () -> x.overpay(9));
        due("by the least without an exact choice", 2, () -> x.overpay(12));
        due("all of it", 0, () -> x.overpay(18));
        due("more than all of it", -1, () -> x.overpay(19));
        due("60 for 1", 59, () -> machine(60, 1).overpay(1));
        due("six 51s for 300", 6, () -> machine(51, 6).overpay(300));
        due("five 60s and one 59 for 300", 0, () -> machine(60, 5, 59, 1).overpay(300));
        due("room too little", -1, () -> machineWithRoom(5, 50, 6).overpay(251));
        for (int postage : BAD_POSTAGES) {
            dueThrow("postage " + postage, BAD_ARGUMENT, x, () -> x.overpay(postage));
        }
    }

    private static void promise18() {
        about("promise 18");
        StampVendor x = machine(3, 9, 4, 9, 6, 1);
        due("12 = 4 + 4 + 4", 3, () -> x.stampsFor(12));
        due("10 = 6 + 4", 2, () -> x.stampsFor(10));
        due("5: one 6", 1, () -> x.stampsFor(5));
        due("26 = 6 + five 4s", 6, () -> x.stampsFor(26));
        due("27: none", 0, () -> x.stampsFor(27));
        due("12 at the greatest room", 12, () -> machineWithRoom(12, 1, 99).stampsFor(12));
        for (int postage : BAD_POSTAGES) {
            dueThrow("postage " + postage, BAD_ARGUMENT, x, () -> x.stampsFor(postage));
        }
    }

    private static void promise19() {
        about("promise 19");
        StampVendor x = machine(5, 9, 7, 9, 9, 9);
        due("14: 5s", 1, () -> x.ofStampFor(14, 0));
        due("14: 7s", 0, () -> x.ofStampFor(14, 1));
        due("14: 9s", 1, () -> x.ofStampFor(14, 2));
        due("54: 9s", 6, () -> x.ofStampFor(54, 2));
        due("55: none", 0, () -> x.ofStampFor(55, 2));
        StampVendor odd = machine(20, 1, 11, 9, 10, 9, 9, 9);
        due("40: 11s", 1, () -> odd.ofStampFor(40, 1));
        due("40: 10s", 0, () -> odd.ofStampFor(40, 2));
        due("40: 9s", 1, () -> odd.ofStampFor(40, 3));
        for (int postage : BAD_POSTAGES) {
            dueThrow("postage " + postage, BAD_ARGUMENT, x, () -> x.ofStampFor(postage, 0));
            dueThrow("both wrong", NO_SUCH_STAMP, x, () -> x.ofStampFor(postage, 3));
        }
        dueThrow("stamp -1", NO_SUCH_STAMP, x, () -> x.ofStampFor(14, -1));
        dueThrow("stamp 3 of 3", NO_SUCH_STAMP, x, () -> x.ofStampFor(14, 3));
    }

    private static void promise20() {
        about("promise 20");
        due("without stamps", 0, () -> new StampVendor().reachNow());
        due("no 1", 0, () -> machine(2, 9, 3, 9).reachNow());
        due("by the stock", 32, () -> machine(1, 4, 5, 3, 12, 2).reachNow());
        due("by the room", 6, () -> machine(1, 99).reachNow());
        due("stock 0 is no stamp", 6, () -> machine(1, 99, 2, 0).reachNow());
        due("1, 2, 3 and 6", 6, () -> machine(1, 1, 2, 1, 3, 1).reachNow());
        due("300 and no more", 300, () -> machineWithRoom(12, 1, 99, 2, 99, 5, 99, 10, 99, 20, 99, 40, 99, 60, 99)
            .reachNow());
    }

    private static void promise21() {
        about("promise 21");
        due("without stamps", 0, () -> new StampVendor().most());
        due("all, if there is room", 40, () -> machine(1, 4, 5, 3, 12, 2).most());
        due("the greatest values first", 34, () -> machineWithRoom(3, 5, 3, 12, 2, 10, 1).most());
        due("over 300", 720, () -> machineWithRoom(12, 60, 99).most());
        due("after vending: 12, three 5s, two 1s", 29, () -> {
            StampVendor x = machine(1, 4, 5, 3, 12, 2);
            x.vend(12);
            return x.most();
        });
    }

    private static void promise22() {
        about("promise 22");
        StampVendor x = machine(1, 0, 5, 0, 12, 0);
        due("23 = 12 + 5 + 5 + 1", 4, () -> x.fewest(23));
        due("15 = 5 + 5 + 5", 3, () -> x.fewest(15));
        due("1", 1, () -> x.fewest(1));
        due("72, all the room", 6, () -> x.fewest(72));
        due("73, no room", -1, () -> x.fewest(73));
        due("45 needs 7", -1, () -> x.fewest(45));
        due("300", 5, () -> machine(60, 0).fewest(300));
        due("299", -1, () -> machine(60, 0).fewest(299));
        due("without stamps", -1, () -> new StampVendor().fewest(1));
        for (int postage : BAD_POSTAGES) {
            dueThrow("postage " + postage, BAD_ARGUMENT, x, () -> x.fewest(postage));
        }
    }

    private static void promise23() {
        about("promise 23");
        StampVendor x = machineWithRoom(12, 1, 0, 5, 0, 12, 0);
        due("12: 12, 5 + 5 + 1 + 1, 5 and seven 1s, twelve 1s", 4, () -> x.ways(12));
        due("4", 1, () -> x.ways(4));
        due("10, by six", 2, () -> machine(1, 0, 5, 0, 12, 0).ways(10));
        due("the order is no matter", 3, () -> machine(2, 0, 3, 0).ways(12));
        due("room 4: not 3 + 3 + 2 + 2 + 2", 4, () -> machineWithRoom(4, 2, 0, 3, 0, 6, 0).ways(12));
        due("no way", 0, () -> machine(2, 0).ways(3));
        due("less room than at the call before", 1, () -> {
            StampVendor y = machine(1, 0, 5, 0);
            y.ways(6);
            y.setRoom(2);
            return y.ways(6);
        });
        due("300", 1, () -> machine(50, 0).ways(300));
        due("without stamps", 0, () -> new StampVendor().ways(1));
        for (int postage : BAD_POSTAGES) {
            dueThrow("postage " + postage, BAD_ARGUMENT, x, () -> x.ways(postage));
        }
    }

    private static void promise24() {
        about("promise 24");
        due("without stamps", 0, () -> new StampVendor().reach());
        due("no 1", 0, () -> machine(2, 9).reach());
        due("1, 5 and 12", 44, () -> machine(1, 4, 5, 3, 12, 2).reach());
        due("the stock is no matter", 6, () -> machine(1, 0).reach());
        due("300 and no more", 300, () -> machineWithRoom(12, 1, 0, 2, 0, 5, 0, 10, 0, 20, 0, 40, 0, 60, 0).reach());
    }

    private static void promise25() {
        about("promise 25");
        StampVendor x = machine(1, 4, 5, 3, 12, 2);
        due("from 1", 45, () -> x.gapFrom(1));
        due("from the gap itself", 45, () -> x.gapFrom(45));
        due("from the one behind it", 52, () -> x.gapFrom(46));
        due("from 300", 300, () -> x.gapFrom(300));
        due("from 300, which can be paid", -1, () -> machine(50, 0).gapFrom(300));
        due("no gap", -1, () -> machineWithRoom(12, 1, 0, 2, 0, 5, 0, 10, 0, 20, 0, 40, 0, 60, 0).gapFrom(1));
        due("without stamps", 7, () -> new StampVendor().gapFrom(7));
        for (int postage : BAD_POSTAGES) {
            dueThrow("postage " + postage, BAD_ARGUMENT, x, () -> x.gapFrom(postage));
        }
    }

    private static void promise26() {
        about("promise 26");
        StampVendor x = machine(1, 4, 5, 3, 12, 2);
        due("to 44", 0, () -> x.gapsTo(44));
        due("to 45", 1, () -> x.gapsTo(45));
        due("to 60", 6, () -> x.gapsTo(60));
        due("without stamps", 300, () -> new StampVendor().gapsTo(300));
        due("even ones to 1", 1, () -> machine(2, 0).gapsTo(1));
        due("even ones to 300", 294, () -> machine(2, 0).gapsTo(300));
        for (int postage : BAD_POSTAGES) {
            dueThrow("postage " + postage, BAD_ARGUMENT, x, () -> x.gapsTo(postage));
        }
    }

    private static void promise27() {
        about("promise 27");
        StampVendor x = machine(10, 3, 4, 4);
        due("8: two 4s twice, then a 10 thrice", 5, () -> x.lettersOf(8));
        due("nothing is changed", 4, () -> x.stockOf(1));
        due("9: a 10 thrice, then three 4s", 4, () -> x.lettersOf(9));
        due("300", 0, () -> x.lettersOf(300));
        due("49", 49, () -> machine(10, 49).lettersOf(1));
        due("50", 50, () -> machine(10, 50).lettersOf(1));
        due("at most 50", 50, () -> machine(10, 99, 20, 99).lettersOf(10));
        due("at most 50, of two kinds", 50, () -> machine(10, 30, 20, 30).lettersOf(10));
        due("without stamps", 0, () -> new StampVendor().lettersOf(1));
        String before = seen(x);
        x.lettersOf(8);
        due("nothing is changed at all", before, () -> seen(x));
        for (int postage : BAD_POSTAGES) {
            dueThrow("postage " + postage, BAD_ARGUMENT, x, () -> x.lettersOf(postage));
        }
    }

    private static void promise28() {
        about("promise 28");
        due("without stamps: 1", 1, () -> new StampVendor().bestValue());
        due("beside 1, room 2: 1, 2, 3, 4", 2, () -> machineWithRoom(2, 1, 0).bestValue());
        due("beside 1, room 3: 1 to 7", 3, () -> machineWithRoom(3, 1, 0).bestValue());
        due("no reach without 1", 1, () -> machine(4, 0, 24, 0).bestValue());
        due("room 1: the next one", 4, () -> machineWithRoom(1, 1, 0, 2, 0, 3, 0).bestValue());
        due("room 1, no gain at all: the smallest free one", 9, () -> {
            StampVendor x = machineWithRoom(1, 1, 0, 2, 0, 3, 0, 4, 0, 5, 0, 6, 0, 7, 0, 8, 0);
            return x.bestValue();
        });
        due("of several without a gain", 1, () -> machineWithRoom(1, 2, 0).bestValue());
        due("all reach 300", 3, () -> machineWithRoom(12, 1, 0, 2, 0, 5, 0, 10, 0, 20, 0, 40, 0, 60, 0).bestValue());
        StampVendor eight = machineOfEight();
        String before = seen(eight);
        due("eight stamps", Reference.of(eight).bestValue(), eight::bestValue);
        due("nothing is changed", before, () -> seen(eight));
    }

    private static void promise29() {
        about("promise 29");
        due("without stamps", -1, () -> new StampVendor().bestToPrint());
        due("the 1", 1, () -> machine(5, 1, 1, 0).bestToPrint());
        due("the 5", 1, () -> machine(1, 4, 5, 0).bestToPrint());
        due("no reach at all", 0, () -> machine(5, 1, 7, 0).bestToPrint());
        due("of several the smallest number", 0, () -> machineWithRoom(1, 1, 1, 2, 1).bestToPrint());
        due("many more of the 3 go farther than of the 4", 1, () -> machine(4, 1, 3, 0, 1, 3).bestToPrint());
        due("each is printed by itself", 1, () -> machineWithRoom(3, 1, 2, 3, 1, 7, 0).bestToPrint());
        due("99 in stock", 0, () -> machine(1, 99).bestToPrint());
        StampVendor x = machine(1, 4, 5, 0, 12, 98);
        String before = seen(x);
        x.bestToPrint();
        due("nothing is changed", before, () -> seen(x));
        due("its answer comes again", Reference.of(x).bestToPrint(), x::bestToPrint);
    }

    private static void promise30() {
        about("promise 30");
        StampVendor x = machine(1, 4, 5, 3, 12, 2);
        due("room 1", 1, () -> x.reachWithRoom(1));
        due("room 6", 44, () -> x.reachWithRoom(6));
        due("room 12", Reference.of(x).reachWithRoom(12), () -> x.reachWithRoom(12));
        due("nothing is changed", 6, x::room);
        due("the room of now is no matter", 12, () -> machineWithRoom(1, 1, 0).reachWithRoom(12));
        due("without stamps", 0, () -> new StampVendor().reachWithRoom(12));
        for (int room : BAD_ROOMS) {
            dueThrow("room " + room, BAD_ARGUMENT, x, () -> x.reachWithRoom(room));
        }
    }

    private static void promise31() {
        about("promise 31");
        due("without stamps", 0.0, () -> new StampVendor().meanValue());
        due("one", 7.0, () -> machine(7, 0).meanValue());
        due("the stock is no matter", 5.5, () -> machine(1, 99, 10, 1).meanValue());
        due("a third", 16 / 3.0, () -> machine(1, 1, 5, 1, 10, 1).meanValue());
        due("eight", 216 / 8.0, () -> machineOfEight().meanValue());
    }

    private static void promise32() {
        about("promise 32");
        due("a new one", digestByFace(new StampVendor()), () -> new StampVendor().digest());
        StampVendor x = machine(10, 3, 4, 4, 35, 9);
        x.vend(9);
        x.vend(123);
        due("after some letters", digestByFace(x), x::digest);
        x.setRoom(12);
        due("with another room", digestByFace(x), x::digest);
        x.withdraw(0);
        due("after a withdrawal", digestByFace(x), x::digest);
        StampVendor eight = machineOfEight();
        due("eight stamps", digestByFace(eight), eight::digest);
    }

    private static long digestByFace(StampVendor x) {
        long[] first = {x.stamps(), x.room(), x.letters(), x.taken(), x.overpaid(), x.scarcest(), x.reachNow(),
            x.most(), x.reach(), x.bestValue(), x.bestToPrint()};
        long d = 2129;
        for (long number : first) {
            d = d * 31 + number;
        }
        for (int stamp = 0; stamp < x.stamps(); stamp++) {
            d = ((d * 31 + x.valueOf(stamp)) * 31 + x.stockOf(stamp)) * 31 + x.vendedOf(stamp);
        }
        for (int postage = 25; postage <= 300; postage += 25) {
            d = ((d * 31 + x.overpay(postage)) * 31 + x.stampsFor(postage)) * 31 + x.fewest(postage);
        }
        return d;
    }

    private static void questionsChangeNothing() {
        about("all promises");
        StampVendor x = machine(1, 4, 5, 3, 12, 2);
        x.vend(22);
        String before = seen(x);
        x.scarcest();
        x.canPay(10);
        x.overpay(10);
        x.stampsFor(10);
        x.ofStampFor(10, 1);
        x.reachNow();
        x.most();
        x.fewest(10);
        x.ways(10);
        x.reach();
        x.gapFrom(10);
        x.gapsTo(10);
        x.lettersOf(10);
        x.bestValue();
        x.bestToPrint();
        x.reachWithRoom(3);
        x.meanValue();
        x.digest();
        due("questions change nothing", before, () -> seen(x));
    }
}
