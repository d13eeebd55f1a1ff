/** A machine that vends stamps for odd postage. */
public final class StampVendor {
    private static final int MAX_STAMPS = 8;
    private static final int MAX_VALUE = 60;
    private static final int MAX_STOCK = 99;
    private static final int MAX_ROOM = 12;
    private static final int FIRST_ROOM = 6;
    private static final int MAX_POSTAGE = 300;
    private static final int MAX_LETTERS_OF = 50;
    private static final int TRIAL_PRINT = 20;
    private static final int DIGEST_STEP = 25;

    // A letter's sum stays below its postage plus the value of each stamp on it:
    // else that stamp could be left off. So no letter needs a greater sum than this.
    private static final int MAX_SUM = MAX_POSTAGE + MAX_VALUE - 1;

    // Stands for "no stamps make this sum": more than any choice can hold.
    private static final int UNPAYABLE = 1000;
    private static final int NONE = -1;

    private final Stamps stamps = new Stamps();
    private final Stamps trial = new Stamps();
    private final StockTable byStock = new StockTable();
    private final PrintTable byPrint = new PrintTable();
    private int room = FIRST_ROOM;
    private int letters = 0;
    private int taken = 0;
    private int overpaid = 0;

    public StampVendor() {
    }

    // ---- stamps

    public int addStamp(int value, int stock) throws IllegalArgumentException, IllegalStateException {
        if (value < 1 || value > MAX_VALUE || stock < 0 || stock > MAX_STOCK) {
            throw new IllegalArgumentException();
        }
        if (stamps.count >= MAX_STAMPS || stamps.hasValue(value)) {
            throw new IllegalStateException();
        }
        return stamps.append(value, stock);
    }

    public int withdraw(int stamp) throws IndexOutOfBoundsException {
        checkStamp(stamp);
        int stock = stamps.stock[stamp];
        stamps.removeAt(stamp);
        return stock;
    }

    public int print(int stamp, int many) throws IndexOutOfBoundsException, IllegalArgumentException {
        checkStamp(stamp);
        if (many < 1 || many > MAX_STOCK) {
            throw new IllegalArgumentException();
        }
        stamps.stock[stamp] = Math.min(stamps.stock[stamp] + many, MAX_STOCK);
        return stamps.stock[stamp];
    }

    public int setRoom(int room) throws IllegalArgumentException {
        checkRoom(room);
        int before = this.room;
        this.room = room;
        return before;
    }

    public int vend(int postage) throws IllegalArgumentException, IllegalStateException {
        checkPostage(postage);
        byStock.fill(stamps, room);
        int sum = byStock.leastSum(postage);
        if (sum == NONE) {
            throw new IllegalStateException();
        }
        byStock.choose(sum);
        stamps.take(byStock.chosen);
        int more = sum - postage;
        letters++;
        taken += sum;
        overpaid += more;
        return more;
    }

    // ---- what there is

    public int stamps() {
        return stamps.count;
    }

    public int room() {
        return room;
    }

    public int valueOf(int stamp) throws IndexOutOfBoundsException {
        checkStamp(stamp);
        return stamps.value[stamp];
    }

    public int stockOf(int stamp) throws IndexOutOfBoundsException {
        checkStamp(stamp);
        return stamps.stock[stamp];
    }

    public int vendedOf(int stamp) throws IndexOutOfBoundsException {
        checkStamp(stamp);
        return stamps.vended[stamp];
    }

    public int letters() {
        return letters;
    }

    public int taken() {
        return taken;
    }

    public int overpaid() {
        return overpaid;
    }

    public int scarcest() {
        int best = NONE;
        int fewestLeft = MAX_STOCK + 1;
        for (int stamp = 0; stamp < stamps.count; stamp++) {
            if (stamps.stock[stamp] < fewestLeft) {
                fewestLeft = stamps.stock[stamp];
                best = stamp;
            }
        }
        return best;
    }

    // ---- by the stock

    public boolean canPay(int postage) throws IllegalArgumentException {
        checkPostage(postage);
        byStock.fill(stamps, room);
        return byStock.pays(postage);
    }

    public int overpay(int postage) throws IllegalArgumentException {
        checkPostage(postage);
        byStock.fill(stamps, room);
        return byStock.moreThan(postage);
    }

    public int stampsFor(int postage) throws IllegalArgumentException {
        checkPostage(postage);
        byStock.fill(stamps, room);
        return byStock.stampsOnLetter(postage);
    }

    public int ofStampFor(int postage, int stamp) throws IndexOutOfBoundsException, IllegalArgumentException {
        checkStamp(stamp);
        checkPostage(postage);
        byStock.fill(stamps, room);
        int sum = byStock.leastSum(postage);
        if (sum == NONE) {
            return 0;
        }
        byStock.choose(sum);
        return byStock.chosen[stamp];
    }

    public int reachNow() {
        byStock.fill(stamps, room);
        return byStock.reachOfStock();
    }

    public int most() {
        byStock.rank(stamps, room);
        return byStock.greatestSum();
    }

    // ---- by the print

    public int fewest(int postage) throws IllegalArgumentException {
        checkPostage(postage);
        byPrint.fill(stamps);
        return byPrint.fewestWithin(postage, room);
    }

    public int ways(int postage) throws IllegalArgumentException {
        checkPostage(postage);
        return byPrint.countChoices(stamps, room, postage);
    }

    public int reach() {
        byPrint.fill(stamps);
        return byPrint.reachWithin(room);
    }

    public int gapFrom(int postage) throws IllegalArgumentException {
        checkPostage(postage);
        byPrint.fill(stamps);
        return byPrint.firstGap(postage, room);
    }

    public int gapsTo(int postage) throws IllegalArgumentException {
        checkPostage(postage);
        byPrint.fill(stamps);
        return byPrint.countGaps(postage, room);
    }

    // ---- what would be

    public int lettersOf(int postage) throws IllegalArgumentException {
        checkPostage(postage);
        trial.copyFrom(stamps);
        int sent = 0;
        for (int round = 0; round < MAX_LETTERS_OF && sent < MAX_LETTERS_OF; round++) {
            byStock.fill(trial, room);
            int sum = byStock.leastSum(postage);
            if (sum == NONE) {
                break;
            }
            byStock.choose(sum);
            // A smaller stock allows no new choice: while this one is in stock, it stays the best.
            while (sent < MAX_LETTERS_OF && trial.holds(byStock.chosen)) {
                trial.take(byStock.chosen);
                sent++;
            }
        }
        return sent;
    }

    public int bestValue() {
        byPrint.fill(stamps);
        int best = NONE;
        int bestReach = NONE;
        for (int value = 1; value <= MAX_VALUE; value++) {
            if (!stamps.hasValue(value)) {
                int reached = byPrint.reachWithValue(value, room);
                if (reached > bestReach) {
                    bestReach = reached;
                    best = value;
                }
            }
        }
        return best;
    }

    public int bestToPrint() {
        trial.copyFrom(stamps);
        int best = NONE;
        int bestReach = NONE;
        for (int stamp = 0; stamp < stamps.count; stamp++) {
            // Over 99 is no matter here: a letter never has room for so many.
            trial.stock[stamp] = stamps.stock[stamp] + TRIAL_PRINT;
            byStock.fill(trial, room);
            trial.stock[stamp] = stamps.stock[stamp];
            int reached = byStock.reachOfStock();
            if (reached > bestReach) {
                bestReach = reached;
                best = stamp;
            }
        }
        return best;
    }

    public int reachWithRoom(int room) throws IllegalArgumentException {
        checkRoom(room);
        byPrint.fill(stamps);
        return byPrint.reachWithin(room);
    }

    public double meanValue() {
        if (stamps.count == 0) {
            return 0;
        }
        int sum = 0;
        for (int stamp = 0; stamp < stamps.count; stamp++) {
            sum += stamps.value[stamp];
        }
        return (double) sum / stamps.count;
    }

    public long digest() {
        long d = 2129;
        d = d * 31 + stamps();
        d = d * 31 + room();
        d = d * 31 + letters();
        d = d * 31 + taken();
        d = d * 31 + overpaid();
        d = d * 31 + scarcest();
        d = d * 31 + reachNow();
        d = d * 31 + most();
        d = d * 31 + reach();
        d = d * 31 + bestValue();
        d = d * 31 + bestToPrint();
        return digestPostages(digestStamps(d));
    }

    private long digestStamps(long start) {
        long d = start;
        for (int stamp = 0; stamp < stamps.count; stamp++) {
            d = d * 31 + stamps.value[stamp];
            d = d * 31 + stamps.stock[stamp];
            d = d * 31 + stamps.vended[stamp];
        }
        return d;
    }

    private long digestPostages(long start) {
        long d = start;
        // Both tables are filled once here: overpay and its like would fill them for each postage.
        byStock.fill(stamps, room);
        byPrint.fill(stamps);
        for (int postage = DIGEST_STEP; postage <= MAX_POSTAGE; postage += DIGEST_STEP) {
            d = d * 31 + byStock.moreThan(postage);
            d = d * 31 + byStock.stampsOnLetter(postage);
            d = d * 31 + byPrint.fewestWithin(postage, room);
        }
        return d;
    }

    private void checkStamp(int stamp) {
        if (stamp < 0 || stamp >= stamps.count) {
            throw new IndexOutOfBoundsException();
        }
    }

    private static void checkPostage(int postage) {
        if (postage < 1 || postage > MAX_POSTAGE) {
            throw new IllegalArgumentException();
        }
    }

    private static void checkRoom(int room) {
        if (room < 1 || room > MAX_ROOM) {
            throw new IllegalArgumentException();
        }
    }

    /** The stamps by their numbers: rows of which the first count places are used. */
    private static final class Stamps {
        final int[] value = new int[MAX_STAMPS];
        final int[] stock = new int[MAX_STAMPS];
        final int[] vended = new int[MAX_STAMPS];
        int count = 0;

        boolean hasValue(int wanted) {
            for (int stamp = 0; stamp < count; stamp++) {
                if (value[stamp] == wanted) {
                    return true;
                }
            }
            return false;
        }

        /** How many stamps have a greater value: as values differ, each stamp has its own such number. */
        int countAbove(int stamp) {
            int above = 0;
            for (int other = 0; other < count; other++) {
                if (value[other] > value[stamp]) {
                    above++;
                }
            }
            return above;
        }

        int append(int newValue, int newStock) {
            int stamp = count;
            if (stamp >= MAX_STAMPS) {
                return NONE;
            }
            value[stamp] = newValue;
            stock[stamp] = newStock;
            vended[stamp] = 0;
            count = stamp + 1;
            return stamp;
        }

        void removeAt(int stamp) {
            for (int behind = stamp + 1; behind < count; behind++) {
                value[behind - 1] = value[behind];
                stock[behind - 1] = stock[behind];
                vended[behind - 1] = vended[behind];
            }
            count--;
        }

        void copyFrom(Stamps other) {
            count = other.count;
            for (int stamp = 0; stamp < count; stamp++) {
                value[stamp] = other.value[stamp];
                stock[stamp] = other.stock[stamp];
                vended[stamp] = other.vended[stamp];
            }
        }

        boolean holds(int[] chosen) {
            for (int stamp = 0; stamp < count; stamp++) {
                if (chosen[stamp] > stock[stamp]) {
                    return false;
                }
            }
            return true;
        }

        void take(int[] chosen) {
            for (int stamp = 0; stamp < count; stamp++) {
                stock[stamp] -= chosen[stamp];
                vended[stamp] += chosen[stamp];
            }
        }
    }

    /** Which sums the stamps in stock make, and which of them a letter gets. */
    private static final class StockTable {
        // Stamps stand here by their rank, 0 for the greatest value: what a letter gets is decided in that order.
        // fewestFrom[rank][sum] is the fewest stamps, of this rank and the ranks behind it, that make the sum.
        private final int[][] fewestFrom = new int[MAX_STAMPS + 1][MAX_SUM + 1];
        private final int[] stampAt = new int[MAX_STAMPS];
        private final int[] valueAt = new int[MAX_STAMPS];
        private final int[] usableAt = new int[MAX_STAMPS];
        private int count = 0;
        private int room = 0;

        /** How many of each stamp, by its number, the letter gets that was chosen last. */
        final int[] chosen = new int[MAX_STAMPS];

        void rank(Stamps stamps, int letterRoom) {
            count = stamps.count;
            room = letterRoom;
            for (int stamp = 0; stamp < count; stamp++) {
                int rank = stamps.countAbove(stamp);
                stampAt[rank] = stamp;
                valueAt[rank] = stamps.value[stamp];
                usableAt[rank] = Math.min(stamps.stock[stamp], letterRoom);
            }
        }

        void fill(Stamps stamps, int letterRoom) {
            rank(stamps, letterRoom);
            int[] withoutStamps = fewestFrom[count];
            for (int sum = 1; sum <= MAX_SUM; sum++) {
                withoutStamps[sum] = UNPAYABLE;
            }
            withoutStamps[0] = 0;
            for (int rank = count - 1; rank >= 0; rank--) {
                fillRow(rank);
            }
        }

        private void fillRow(int rank) {
            int[] row = fewestFrom[rank];
            int[] behind = fewestFrom[rank + 1];
            int value = valueAt[rank];
            int usable = usableAt[rank];
            for (int sum = 0; sum <= MAX_SUM; sum++) {
                int best = behind[sum];
                for (int many = 1; many <= usable && many * value <= sum; many++) {
                    best = Math.min(best, behind[sum - many * value] + many);
                }
                row[sum] = best;
            }
        }

        boolean pays(int sum) {
            return fewestFrom[0][sum] <= room;
        }

        /** The sum of what a letter gets, or NONE. */
        int leastSum(int postage) {
            for (int sum = postage; sum <= MAX_SUM; sum++) {
                if (pays(sum)) {
                    return sum;
                }
            }
            return NONE;
        }

        int moreThan(int postage) {
            int sum = leastSum(postage);
            return sum == NONE ? NONE : sum - postage;
        }

        int stampsOnLetter(int postage) {
            int sum = leastSum(postage);
            return sum == NONE ? 0 : fewestFrom[0][sum];
        }

        /** Puts into chosen what makes this sum, which must be one that pays. */
        void choose(int sum) {
            int rest = sum;
            for (int rank = 0; rank < count; rank++) {
                int many = mostOf(rank, rest);
                chosen[stampAt[rank]] = many;
                rest -= many * valueAt[rank];
            }
        }

        private int mostOf(int rank, int sum) {
            int value = valueAt[rank];
            int needed = fewestFrom[rank][sum];
            int[] behind = fewestFrom[rank + 1];
            for (int many = usableAt[rank]; many > 0; many--) {
                int rest = sum - many * value;
                if (rest >= 0 && behind[rest] + many == needed) {
                    return many;
                }
            }
            return 0;
        }

        int reachOfStock() {
            int reached = 0;
            while (reached < MAX_POSTAGE && pays(reached + 1)) {
                reached++;
            }
            return reached;
        }

        /** Needs the ranks alone. */
        int greatestSum() {
            int free = room;
            int sum = 0;
            for (int rank = 0; rank < count; rank++) {
                int many = Math.min(usableAt[rank], free);
                sum += many * valueAt[rank];
                free -= many;
            }
            return sum;
        }
    }

    /** Which postages the values pay exactly, if there are as many of each stamp as one likes. */
    private static final class PrintTable {
        // The fewest stamps that pay each postage, for however many a letter has room.
        private final int[] fewestFor = new int[MAX_POSTAGE + 1];
        private final int[] fewestWithValue = new int[MAX_POSTAGE + 1];
        // choices[many][sum] counts the choices of just so many stamps that make the sum.
        private final int[][] choices = new int[MAX_ROOM + 1][MAX_POSTAGE + 1];

        void fill(Stamps stamps) {
            fewestFor[0] = 0;
            for (int postage = 1; postage <= MAX_POSTAGE; postage++) {
                int best = UNPAYABLE;
                for (int stamp = 0; stamp < stamps.count; stamp++) {
                    int rest = postage - stamps.value[stamp];
                    if (rest >= 0) {
                        best = Math.min(best, fewestFor[rest] + 1);
                    }
                }
                fewestFor[postage] = best;
            }
        }

        int fewestWithin(int postage, int room) {
            return fewestFor[postage] <= room ? fewestFor[postage] : NONE;
        }

        int reachWithin(int room) {
            int gap = firstGap(1, room);
            return gap == NONE ? MAX_POSTAGE : gap - 1;
        }

        int firstGap(int from, int room) {
            for (int postage = from; postage <= MAX_POSTAGE; postage++) {
                if (fewestFor[postage] > room) {
                    return postage;
                }
            }
            return NONE;
        }

        int countGaps(int to, int room) {
            int gaps = 0;
            for (int postage = 1; postage <= to; postage++) {
                if (fewestFor[postage] > room) {
                    gaps++;
                }
            }
            return gaps;
        }

        /** The reach, if there was a stamp more, with this value. */
        int reachWithValue(int value, int room) {
            fewestWithValue[0] = 0;
            for (int postage = 1; postage <= MAX_POSTAGE; postage++) {
                int best = fewestFor[postage];
                if (postage >= value) {
                    best = Math.min(best, fewestWithValue[postage - value] + 1);
                }
                if (best > room) {
                    return postage - 1;
                }
                fewestWithValue[postage] = best;
            }
            return MAX_POSTAGE;
        }

        int countChoices(Stamps stamps, int room, int postage) {
            clearChoices(room, postage);
            for (int stamp = 0; stamp < stamps.count; stamp++) {
                addChoicesWith(stamps.value[stamp], room, postage);
            }
            int all = 0;
            for (int many = 0; many <= room; many++) {
                all += choices[many][postage];
            }
            return all;
        }

        private void clearChoices(int room, int postage) {
            for (int many = 0; many <= room; many++) {
                for (int sum = 0; sum <= postage; sum++) {
                    choices[many][sum] = 0;
                }
            }
            choices[0][0] = 1;
        }

        /** Goes up in many, so that a choice may hold this value more than once. */
        private void addChoicesWith(int value, int room, int postage) {
            for (int many = 1; many <= room; many++) {
                for (int sum = value; sum <= postage; sum++) {
                    choices[many][sum] += choices[many - 1][sum - value];
                }
            }
        }
    }
}
