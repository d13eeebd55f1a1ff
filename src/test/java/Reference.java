import java.util.ArrayList;
import java.util.List;

/**
 * The document said once more, as literally as can be: it goes through every choice, one by one.
 * Slow, and apart from the program's own tables.
 */
public final class Reference {
    private final List<int[]> stamps = new ArrayList<>(); // value, stock, vended
    private int room = 6;
    private int letters;
    private int taken;
    private int postages;

    /** A copy of what can be seen of a machine. */
    static Reference of(StampVendor x) {
        Reference copy = new Reference();
        for (int i = 0; i < x.stamps(); i++) {
            copy.stamps.add(new int[] {x.valueOf(i), x.stockOf(i), x.vendedOf(i)});
        }
        copy.room = x.room();
        copy.letters = x.letters();
        copy.taken = x.taken();
        copy.postages = x.taken() - x.overpaid();
        return copy;
    }

    private interface Visitor {
        void visit(int[] choice, int many, int sum);
    }

    private static void eachChoice(int[] values, int[] limits, int room, Visitor visitor) {
        eachChoice(values, limits, new int[values.length], 0, room, visitor);
    }

    private static void eachChoice(int[] values, int[] limits, int[] choice, int at, int room, Visitor visitor) {
        if (at == values.length) {
            int many = 0;
            int sum = 0;
            for (int i = 0; i < values.length; i++) {
                many += choice[i];
                sum += choice[i] * values[i];
            }
            visitor.visit(choice, many, sum);
            return;
        }
        for (int n = 0; n <= limits[at] && n <= room; n++) {
            choice[at] = n;
            eachChoice(values, limits, choice, at + 1, room - n, visitor);
        }
        choice[at] = 0;
    }

    private int[] values() {
        return stamps.stream().mapToInt(s -> s[0]).toArray();
    }

    private int[] stocks() {
        return stamps.stream().mapToInt(s -> s[1]).toArray();
    }

    private static int[] limits(int length) {
        int[] limits = new int[length];
        java.util.Arrays.fill(limits, 12);
        return limits;
    }

    private static boolean[] exactSums(int[] values, int[] limits, int room) {
        boolean[] sums = new boolean[721];
        eachChoice(values, limits, room, (choice, many, sum) -> sums[sum] = true);
        return sums;
    }

    private static int reachOf(boolean[] sums) {
        int reach = 0;
        while (reach < 300 && sums[reach + 1]) {
            reach++;
        }
        return reach;
    }

    /** What a letter gets, by the numbers of the stamps; null if it gets none. */
    private int[] letter(int postage, int[] stocks) {
        int[] values = values();
        int[][] best = {null};
        eachChoice(values, stocks, room, (choice, many, sum) -> {
            if (sum >= postage && (best[0] == null || better(values, choice, best[0]))) {
                best[0] = choice.clone();
            }
        });
        return best[0];
    }

    private static int total(int[] a, int[] b) {
        int total = 0;
        for (int i = 0; i < a.length; i++) {
            total += a[i] * (b == null ? 1 : b[i]);
        }
        return total;
    }

    private static boolean better(int[] values, int[] a, int[] b) {
        if (total(a, values) != total(b, values)) {
            return total(a, values) < total(b, values);
        }
        if (total(a, null) != total(b, null)) {
            return total(a, null) < total(b, null);
        }
        for (int value = 60; value >= 1; value--) {
            for (int i = 0; i < values.length; i++) {
                if (values[i] == value && a[i] != b[i]) {
                    return a[i] > b[i];
                }
            }
        }
        return false;
    }

    private void needStamp(int stamp) {
        if (stamp < 0 || stamp >= stamps.size()) {
            throw new IndexOutOfBoundsException();
        }
    }

    private static void need(boolean good) {
        if (!good) {
            throw new IllegalArgumentException();
        }
    }

    private static void needPostage(int postage) {
        need(postage >= 1 && postage <= 300);
    }

    public int addStamp(int value, int stock) {
        need(value >= 1 && value <= 60 && stock >= 0 && stock <= 99);
        if (stamps.size() == 8 || stamps.stream().anyMatch(s -> s[0] == value)) {
            throw new IllegalStateException();
        }
        stamps.add(new int[] {value, stock, 0});
        return stamps.size() - 1;
    }

    public int withdraw(int stamp) {
        needStamp(stamp);
        return stamps.remove(stamp)[1];
    }

    public int print(int stamp, int many) {
        needStamp(stamp);
        need(many >= 1 && many <= 99);
        stamps.get(stamp)[1] = Math.min(99, stamps.get(stamp)[1] + many);
        return stamps.get(stamp)[1];
    }

    public int setRoom(int newRoom) {
        need(newRoom >= 1 && newRoom <= 12);
        int before = room;
        room = newRoom;
        return before;
    }

    public int vend(int postage) {
        needPostage(postage);
        int[] letter = letter(postage, stocks());
        if (letter == null) {
            throw new IllegalStateException();
        }
        for (int i = 0; i < letter.length; i++) {
            stamps.get(i)[1] -= letter[i];
            stamps.get(i)[2] += letter[i];
        }
        int sum = total(letter, values());
        letters++;
        taken += sum;
        postages += postage;
        return sum - postage;
    }

    public int stamps() {
        return stamps.size();
    }

    public int room() {
        return room;
    }

    public int valueOf(int stamp) {
        needStamp(stamp);
        return stamps.get(stamp)[0];
    }

    public int stockOf(int stamp) {
        needStamp(stamp);
        return stamps.get(stamp)[1];
    }

    public int vendedOf(int stamp) {
        needStamp(stamp);
        return stamps.get(stamp)[2];
    }

    public int letters() {
        return letters;
    }

    public int taken() {
        return taken;
    }

    public int overpaid() {
        return taken - postages;
    }

    public int scarcest() {
        int best = -1;
        for (int i = stamps.size() - 1; i >= 0; i--) {
            if (best == -1 || stamps.get(i)[1] <= stamps.get(best)[1]) {
                best = i;
            }
        }
        return best;
    }

    public boolean canPay(int postage) {
        needPostage(postage);
        return exactSums(values(), stocks(), room)[postage];
    }

    public int overpay(int postage) {
        needPostage(postage);
        int[] letter = letter(postage, stocks());
        return letter == null ? -1 : total(letter, values()) - postage;
    }

    public int stampsFor(int postage) {
        needPostage(postage);
        int[] letter = letter(postage, stocks());
        return letter == null ? 0 : total(letter, null);
    }

    public int ofStampFor(int postage, int stamp) {
        needStamp(stamp);
        needPostage(postage);
        int[] letter = letter(postage, stocks());
        return letter == null ? 0 : letter[stamp];
    }

    public int reachNow() {
        return reachOf(exactSums(values(), stocks(), room));
    }

    public int most() {
        boolean[] sums = exactSums(values(), stocks(), room);
        int most = 720;
        while (!sums[most]) {
            most--;
        }
        return most;
    }

    public int fewest(int postage) {
        needPostage(postage);
        int[] fewest = {-1};
        eachChoice(values(), limits(stamps.size()), room, (choice, many, sum) -> {
            if (sum == postage && (fewest[0] == -1 || many < fewest[0])) {
                fewest[0] = many;
            }
        });
        return fewest[0];
    }

    public int ways(int postage) {
        needPostage(postage);
        int[] ways = {0};
        eachChoice(values(), limits(stamps.size()), room, (choice, many, sum) -> ways[0] += sum == postage ? 1 : 0);
        return ways[0];
    }

    private boolean[] sumsByPrint() {
        return exactSums(values(), limits(stamps.size()), room);
    }

    public int reach() {
        return reachOf(sumsByPrint());
    }

    public int gapFrom(int postage) {
        needPostage(postage);
        boolean[] sums = sumsByPrint();
        for (int gap = postage; gap <= 300; gap++) {
            if (!sums[gap]) {
                return gap;
            }
        }
        return -1;
    }

    public int gapsTo(int postage) {
        needPostage(postage);
        boolean[] sums = sumsByPrint();
        int gaps = 0;
        for (int gap = 1; gap <= postage; gap++) {
            gaps += sums[gap] ? 0 : 1;
        }
        return gaps;
    }

    public int lettersOf(int postage) {
        needPostage(postage);
        int[] stocks = stocks();
        for (int sent = 0; sent < 50; sent++) {
            int[] letter = letter(postage, stocks);
            if (letter == null) {
                return sent;
            }
            for (int i = 0; i < letter.length; i++) {
                stocks[i] -= letter[i];
            }
        }
        return 50;
    }

    public int bestValue() {
        int best = -1;
        int bestReach = -1;
        for (int value = 1; value <= 60; value++) {
            int candidate = value;
            if (stamps.stream().anyMatch(s -> s[0] == candidate)) {
                continue;
            }
            int[] values = java.util.Arrays.copyOf(values(), stamps.size() + 1);
            values[stamps.size()] = value;
            int reach = reachOf(exactSums(values, limits(values.length), room));
            if (reach > bestReach) {
                bestReach = reach;
                best = value;
            }
        }
        return best;
    }

    public int bestToPrint() {
        int best = -1;
        int bestReach = -1;
        for (int stamp = 0; stamp < stamps.size(); stamp++) {
            int[] stocks = stocks();
            stocks[stamp] += 20;
            int reach = reachOf(exactSums(values(), stocks, room));
            if (reach > bestReach) {
                bestReach = reach;
                best = stamp;
            }
        }
        return best;
    }

    public int reachWithRoom(int otherRoom) {
        need(otherRoom >= 1 && otherRoom <= 12);
        return reachOf(exactSums(values(), limits(stamps.size()), otherRoom));
    }

    public double meanValue() {
        return stamps.isEmpty() ? 0 : total(values(), null) / (double) stamps.size();
    }

    public long digest() {
        List<Integer> numbers = new ArrayList<>(List.of(stamps(), room(), letters(), taken(), overpaid()));
        numbers.addAll(List.of(scarcest(), reachNow(), most(), reach(), bestValue(), bestToPrint()));
        for (int[] stamp : stamps) {
            numbers.addAll(List.of(stamp[0], stamp[1], stamp[2]));
        }
        for (int postage = 25; postage <= 300; postage += 25) {
            numbers.addAll(List.of(overpay(postage), stampsFor(postage), fewest(postage)));
        }
        long d = 2129;
        for (int number : numbers) {
            d = d * 31 + number;
        }
        return d;
    }
}
