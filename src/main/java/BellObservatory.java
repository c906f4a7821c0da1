import java.util.NoSuchElementException;

/**
 * A town of doorbells, with houses that sleep, halls in which rings echo, and posts that tell how far a prank is.
 *
 * <p>Every change is judged before it is done, so that a refused one has touched nothing; all rows are made with the
 * object and used again, so that a call makes nothing but the exception that it throws.
 */
public final class BellObservatory {
    private static final int NONE = -1;

    private static final int SIDE = 8;
    private static final int CELLS = 64;
    private static final int DAY_HOURS = 24;
    private static final int MOST_HOUSES = 10;
    private static final int MOST_HALLS = 4;
    private static final int MOST_POSTS = 4;
    private static final int MOST_HOURS = 99;
    private static final int MOST_TONES = 9;
    private static final int MOST_FAR = 14;
    private static final int MOST_MARKS = 9;
    private static final int MOST_SIGNS = 60;
    private static final int LONGEST_LINE = 20;
    private static final int MOST_UNDONE = 8;

    private static final int VISITOR = 0;
    private static final int MAIL = 1;
    private static final int ALARM = 2;
    private static final int PRANK = 3;
    private static final int CLASSES = 4;

    private static final int FINE = 0;
    private static final int MISSING = 1;
    private static final int WRONG = 2;
    private static final int REFUSED = 3;

    private static final int IS_FULL = 1;
    private static final int IS_BLOCKED = 2;
    private static final int HAS_HOUSE = 3;
    private static final int HAS_HALL = 4;
    private static final int HAS_NO_PRANK = 5;
    private static final int IS_SO_ALREADY = 6;
    private static final int HAS_POST = 7;

    private static final int ORDER_HOUSE = 0;
    private static final int ORDER_BLOCK = 1;
    private static final int ORDER_HALL = 2;
    private static final int ORDER_RING = 3;
    private static final int ORDER_POST = 4;
    private static final int ORDER_TELL = 5;

    private final Town town;
    private final Town ahead;
    private final Town kept;
    private boolean isKept;
    private final Past past;
    private final Reason reason;
    private final Orders orders;
    private final Ways ways;
    private final Sheet sheet;

    public BellObservatory() {
        town = new Town();
        ahead = new Town();
        kept = new Town();
        isKept = false;
        past = new Past();
        reason = new Reason();
        orders = new Orders();
        ways = new Ways();
        sheet = new Sheet();
    }

    // Houses, blocks and halls.

    public int house(int cell, int from, int to) throws IllegalArgumentException, UnsupportedOperationException {
        demandFine(town.judgeHouse(cell, from, to, reason));
        past.push(town);
        return town.houses.add(cell, from, to);
    }

    public int goAway(int house) throws IndexOutOfBoundsException {
        demandListed(town.houses.has(house));
        past.push(town);
        return town.houses.remove(house);
    }

    public boolean block(int cell) throws IllegalArgumentException, UnsupportedOperationException {
        demandFine(town.judgeBlock(cell, reason));
        past.push(town);
        return town.turnBlock(cell);
    }

    public int hall(int row, int first, int last) throws IllegalArgumentException, UnsupportedOperationException {
        demandFine(town.judgeHall(row, first, last, reason));
        past.push(town);
        return town.halls.add(row, first, last);
    }

    public int dropHall(int hall) throws IndexOutOfBoundsException {
        demandListed(town.halls.has(hall));
        past.push(town);
        return town.halls.remove(hall);
    }

    public int pass(int hours) throws IllegalArgumentException {
        demandFine(town.judgeHours(hours));
        past.push(town);
        return town.letPass(hours);
    }

    public int houseOf(int house, int what) throws IndexOutOfBoundsException, IllegalArgumentException {
        demandListed(town.houses.has(house));
        demandProper(isWithin(what, 0, 7));
        switch (what) {
            case 0:
                return town.houses.cellAt(house);
            case 1:
                return town.houses.fromAt(house);
            case 2:
                return town.houses.toAt(house);
            case 3:
                return town.houses.ringsAt(house);
            case 4:
                return town.houses.pranksAt(house);
            case 5:
                return town.halls.around(town.houses.cellAt(house));
            case 6:
                return town.houses.isAsleep(house, town.hour) ? 1 : 0;
            default:
                return town.houses.sleepAt(house);
        }
    }

    public int asleep(int hour, boolean isAgain) throws IllegalArgumentException {
        demandProper(isHour(hour));
        return isAgain ? town.houses.sleepersByTurns(hour) : town.houses.sleepers(hour);
    }

    public int deepest() throws NoSuchElementException {
        int hour = town.houses.deepestHour();
        demandFound(hour != NONE);
        return hour;
    }

    // Rings and echoes.

    public int ring(int house, int shorts, int longs) throws IndexOutOfBoundsException, IllegalArgumentException {
        demandFine(town.judgeRing(house, shorts, longs));
        past.push(town);
        return town.ringAt(house, shorts, longs);
    }

    public int classOf(int house, int hour, int shorts, int longs)
            throws IndexOutOfBoundsException, IllegalArgumentException {
        demandFine(town.judgeRing(house, shorts, longs));
        demandProper(isHour(hour));
        return town.kindAt(house, hour, shorts, longs);
    }

    public int echo(int house, int other, int shorts)
            throws IndexOutOfBoundsException, IllegalArgumentException, NoSuchElementException {
        demandListed(town.houses.has(house) && town.houses.has(other));
        demandProper(isTones(shorts));
        demandFound(town.isEchoed(house, other));
        return town.shortsLeft(house, other, shorts);
    }

    public int heard(int house, int shorts, int longs) throws IndexOutOfBoundsException, IllegalArgumentException {
        demandFine(town.judgeRing(house, shorts, longs));
        return town.countHearers(house, shorts, longs);
    }

    public int rings(int kind) throws IllegalArgumentException {
        demandProper(isWithin(kind, 0, CLASSES - 1));
        return town.countKind(kind);
    }

    // Posts and pranks.

    public int post(int cell) throws IllegalArgumentException, UnsupportedOperationException {
        demandFine(town.judgePost(cell, reason));
        past.push(town);
        return town.posts.add(cell);
    }

    public int dropPost(int post) throws IndexOutOfBoundsException {
        demandListed(town.posts.has(post));
        past.push(town);
        return town.posts.remove(post);
    }

    public int tell(int post, int far)
            throws IndexOutOfBoundsException, IllegalArgumentException, UnsupportedOperationException {
        demandFine(town.judgeTell(post, far, reason));
        past.push(town);
        town.posts.setTold(post, far);
        return town.countFits();
    }

    public int postOf(int post, int what)
            throws IndexOutOfBoundsException, IllegalArgumentException, NoSuchElementException {
        demandListed(town.posts.has(post));
        demandProper(isWithin(what, 0, 1));
        if (what == 0) {
            return town.posts.cellAt(post);
        }
        demandFound(town.posts.toldAt(post) != NONE);
        return town.posts.toldAt(post);
    }

    public boolean fits(int cell) throws IllegalArgumentException, NoSuchElementException {
        demandProper(Grid.isCell(cell));
        demandFound(town.hasPrank());
        return town.canBeFrom(cell);
    }

    public int fitting(boolean isAgain) throws NoSuchElementException {
        demandFound(town.hasPrank());
        return isAgain ? town.countFitsAround() : town.countFits();
    }

    public int fix(int place) throws NoSuchElementException {
        demandFound(town.hasPrank());
        int cell = town.fitAt(place);
        demandFound(cell != NONE);
        return cell;
    }

    // Ways and orders.

    public int apart(int one, int other) throws IllegalArgumentException {
        demandProper(Grid.isCell(one) && Grid.isCell(other));
        return Grid.distance(one, other);
    }

    public int way(int one, int other, boolean isAgain) throws IllegalArgumentException, NoSuchElementException {
        demandProper(Grid.isCell(one) && Grid.isCell(other));
        int far = isAgain ? ways.lowestTo(town, one, other) : ways.stepsTo(town, one, other);
        demandFound(far != NONE);
        return far;
    }

    public int round(int place) throws NoSuchElementException {
        ways.goRound(town);
        int house = ways.stopAt(place);
        demandFound(house != NONE);
        return house;
    }

    public int steps() {
        ways.goRound(town);
        return ways.roundSteps();
    }

    public int ranked(int place) throws NoSuchElementException {
        int house = town.houses.atRank(place);
        demandFound(house != NONE);
        return house;
    }

    // Lines, texts, accounts, undo and snapshot.

    public int line(int row) throws IllegalArgumentException {
        demandProper(isLane(row));
        return sheet.writeRow(town, row);
    }

    public int houseLine(int house) throws IndexOutOfBoundsException {
        demandListed(town.houses.has(house));
        return sheet.writeHouse(town.houses, house, town.hour);
    }

    public char character(int index) throws IndexOutOfBoundsException {
        demandListed(sheet.has(index));
        return sheet.signAt(index);
    }

    public int append(char c) throws IllegalStateException {
        demandReady(!orders.isFull());
        return orders.add(c);
    }

    public int run() throws IllegalArgumentException, UnsupportedOperationException {
        int verdict = orders.read() ? FINE : WRONG;
        orders.clear();
        ahead.take(town);
        for (int order = 0; order < orders.count() && verdict == FINE; order++) {
            int one = orders.numberAt(order, 0);
            int two = orders.numberAt(order, 1);
            int three = orders.numberAt(order, 2);
            verdict = judgeOrder(orders.kindAt(order), one, two, three);
            if (verdict == FINE) {
                doOrder(orders.kindAt(order), one, two, three);
            }
        }
        if (verdict != FINE) {
            town.take(ahead);
        }
        // A text never tells that there is no such house or post, but that it cannot be.
        demandProper(verdict != MISSING);
        demandFine(verdict);
        past.push(ahead);
        return orders.count();
    }

    public int errorPosition() {
        return orders.errorPlace();
    }

    public int refusal(boolean isDetail) throws NoSuchElementException {
        demandFound(reason.isGiven());
        return isDetail ? reason.detail : reason.number;
    }

    public int account(int what) throws IllegalArgumentException {
        demandProper(isWithin(what, 0, 12));
        if (what == 11) {
            return orders.size();
        }
        if (what == 12) {
            return past.size();
        }
        return town.countOf(what);
    }

    public boolean isWell() {
        return town.houses.areSleepersAlike()
                && (!town.hasPrank() || town.countFits() == town.countFitsAround())
                && ways.areWaysAlike(town)
                && town.areRingsComplete();
    }

    public double meanSleep() throws ArithmeticException {
        demandDivisor(town.houses.size());
        return (double) town.houses.sleepSum() / (double) town.houses.size();
    }

    public float prankShare() throws ArithmeticException {
        demandDivisor(town.countRings());
        return (float) town.countKind(PRANK) / (float) town.countRings();
    }

    public int undo() throws IllegalStateException {
        demandReady(past.size() > 0);
        past.pop(town);
        return past.size();
    }

    public int save() {
        kept.take(town);
        isKept = true;
        return town.houses.size();
    }

    public int restore() throws IllegalStateException {
        demandReady(isKept);
        town.take(kept);
        past.clear();
        return town.houses.size();
    }

    // The orders of a text.

    private int judgeOrder(int kind, int one, int two, int three) {
        switch (kind) {
            case ORDER_HOUSE:
                return town.judgeHouse(one, two, three, reason);
            case ORDER_BLOCK:
                return town.judgeBlock(one, reason);
            case ORDER_HALL:
                return town.judgeHall(one, two, three, reason);
            case ORDER_RING:
                return town.judgeRing(one, two, three);
            case ORDER_POST:
                return town.judgePost(one, reason);
            case ORDER_TELL:
                return town.judgeTell(one, two, reason);
            default:
                return town.judgeHours(one);
        }
    }

    private void doOrder(int kind, int one, int two, int three) {
        switch (kind) {
            case ORDER_HOUSE:
                town.houses.add(one, two, three);
                break;
            case ORDER_BLOCK:
                town.turnBlock(one);
                break;
            case ORDER_HALL:
                town.halls.add(one, two, three);
                break;
            case ORDER_RING:
                town.ringAt(one, two, three);
                break;
            case ORDER_POST:
                town.posts.add(one);
                break;
            case ORDER_TELL:
                town.posts.setTold(one, two);
                break;
            default:
                town.letPass(one);
                break;
        }
    }

    // What calls are told that can't be answered.

    private static void demandFine(int verdict) {
        demandListed(verdict != MISSING);
        demandProper(verdict != WRONG);
        if (verdict == REFUSED) {
            throw new UnsupportedOperationException("this is refused");
        }
    }

    private static void demandListed(boolean isListed) {
        if (!isListed) {
            throw new IndexOutOfBoundsException("there is none of this number");
        }
    }

    private static void demandProper(boolean isProper) {
        if (!isProper) {
            throw new IllegalArgumentException("this cannot be");
        }
    }

    private static void demandFound(boolean isFound) {
        if (!isFound) {
            throw new NoSuchElementException("there is none");
        }
    }

    private static void demandReady(boolean isReady) {
        if (!isReady) {
            throw new IllegalStateException("this cannot be now");
        }
    }

    private static void demandDivisor(int divisor) {
        if (divisor <= 0) {
            throw new ArithmeticException("there are none to divide by");
        }
    }

    private static boolean isWithin(int number, int least, int most) {
        return number >= least && number <= most;
    }

    private static boolean isHour(int number) {
        return isWithin(number, 0, DAY_HOURS - 1);
    }

    private static boolean isLane(int number) {
        return isWithin(number, 0, SIDE - 1);
    }

    private static boolean isTones(int number) {
        return isWithin(number, 0, MOST_TONES);
    }

    /** Rows of numbers, of which no place is used that is not there. */
    private static final class Rows {
        static int at(int[] row, int place) {
            return place >= 0 && place < row.length ? row[place] : NONE;
        }

        static void put(int[] row, int place, int number) {
            if (place >= 0 && place < row.length) {
                row[place] = number;
            }
        }

        static void take(int[] row, int[] other) {
            System.arraycopy(other, 0, row, 0, Math.min(row.length, other.length));
        }

        static void closeGap(int[] row, int gap) {
            for (int place = 0; place + 1 < row.length; place++) {
                if (place >= gap) {
                    row[place] = row[place + 1];
                }
            }
        }

        static int sum(int[] row) {
            int sum = 0;
            for (int number : row) {
                sum += number;
            }
            return sum;
        }

        static int placeOf(int[] row, int size, int number) {
            for (int place = 0; place < size && place < row.length; place++) {
                if (row[place] == number) {
                    return place;
                }
            }
            return NONE;
        }
    }

    private static final class Grid {
        static boolean isCell(int cell) {
            return isWithin(cell, 0, CELLS - 1);
        }

        static int rowOf(int cell) {
            return cell / SIDE;
        }

        static int columnOf(int cell) {
            return cell % SIDE;
        }

        static int cellAt(int row, int column) {
            return isLane(row) && isLane(column) ? SIDE * row + column : NONE;
        }

        static int distance(int one, int other) {
            return Math.abs(rowOf(one) - rowOf(other)) + Math.abs(columnOf(one) - columnOf(other));
        }

        /** The cell above, below, on the left or on the right, for a side from 0 to 3; none beyond the town. */
        static int nextTo(int cell, int side) {
            int down = side == 0 ? -1 : side == 1 ? 1 : 0;
            int right = side == 2 ? -1 : side == 3 ? 1 : 0;
            return cellAt(rowOf(cell) + down, columnOf(cell) + right);
        }
    }

    private static final class Houses {
        private int size;
        private final int[] cells = new int[MOST_HOUSES];
        private final int[] froms = new int[MOST_HOUSES];
        private final int[] tos = new int[MOST_HOUSES];
        private final int[] rings = new int[MOST_HOUSES];
        private final int[] pranks = new int[MOST_HOUSES];

        int size() {
            return size;
        }

        boolean has(int house) {
            return house >= 0 && house < size;
        }

        boolean isFull() {
            return size >= MOST_HOUSES;
        }

        int on(int cell) {
            return Rows.placeOf(cells, size, cell);
        }

        int cellAt(int house) {
            return Rows.at(cells, house);
        }

        int fromAt(int house) {
            return Rows.at(froms, house);
        }

        int toAt(int house) {
            return Rows.at(tos, house);
        }

        int ringsAt(int house) {
            return Rows.at(rings, house);
        }

        int pranksAt(int house) {
            return Rows.at(pranks, house);
        }

        int add(int cell, int from, int to) {
            int house = size;
            Rows.put(cells, house, cell);
            Rows.put(froms, house, from);
            Rows.put(tos, house, to);
            Rows.put(rings, house, 0);
            Rows.put(pranks, house, 0);
            size++;
            return house;
        }

        int remove(int house) {
            Rows.closeGap(cells, house);
            Rows.closeGap(froms, house);
            Rows.closeGap(tos, house);
            Rows.closeGap(rings, house);
            Rows.closeGap(pranks, house);
            size--;
            return size;
        }

        void countRing(int house, boolean isPrank) {
            Rows.put(rings, house, ringsAt(house) + 1);
            if (isPrank) {
                Rows.put(pranks, house, pranksAt(house) + 1);
            }
        }

        int sleepAt(int house) {
            return (toAt(house) - fromAt(house) + DAY_HOURS) % DAY_HOURS;
        }

        int sleepSum() {
            int sum = 0;
            for (int house = 0; house < size; house++) {
                sum += sleepAt(house);
            }
            return sum;
        }

        boolean isAsleep(int house, int hour) {
            int from = Rows.at(froms, house);
            int to = Rows.at(tos, house);
            if (from <= to) {
                return hour >= from && hour < to;
            }
            return hour >= from || hour < to;
        }

        int sleepers(int hour) {
            int count = 0;
            for (int house = 0; house < size; house++) {
                if (isAsleep(house, hour)) {
                    count++;
                }
            }
            return count;
        }

        int sleepersByTurns(int hour) {
            int count = 0;
            for (int house = 0; house < size; house++) {
                if (fromAt(house) > toAt(house)) {
                    count++;
                }
            }
            for (int turn = 0; turn <= hour && turn < DAY_HOURS; turn++) {
                count += turnAt(turn);
            }
            return count;
        }

        private int turnAt(int hour) {
            int more = 0;
            for (int house = 0; house < size; house++) {
                if (fromAt(house) == hour) {
                    more++;
                }
                if (toAt(house) == hour) {
                    more--;
                }
            }
            return more;
        }

        boolean areSleepersAlike() {
            for (int hour = 0; hour < DAY_HOURS; hour++) {
                if (sleepers(hour) != sleepersByTurns(hour)) {
                    return false;
                }
            }
            return true;
        }

        int deepestHour() {
            int most = 0;
            int deepest = NONE;
            for (int hour = 0; hour < DAY_HOURS; hour++) {
                int count = sleepers(hour);
                if (count > most) {
                    most = count;
                    deepest = hour;
                }
            }
            return deepest;
        }

        int atRank(int place) {
            for (int house = 0; house < size; house++) {
                if (rankOf(house) == place) {
                    return house;
                }
            }
            return NONE;
        }

        private int rankOf(int house) {
            int rank = 0;
            for (int other = 0; other < size; other++) {
                if (isAhead(other, house)) {
                    rank++;
                }
            }
            return rank;
        }

        private boolean isAhead(int one, int other) {
            if (pranksAt(one) != pranksAt(other)) {
                return pranksAt(one) > pranksAt(other);
            }
            if (ringsAt(one) != ringsAt(other)) {
                return ringsAt(one) > ringsAt(other);
            }
            return one < other;
        }

        void take(Houses other) {
            size = other.size;
            Rows.take(cells, other.cells);
            Rows.take(froms, other.froms);
            Rows.take(tos, other.tos);
            Rows.take(rings, other.rings);
            Rows.take(pranks, other.pranks);
        }
    }

    private static final class Halls {
        private int size;
        private final int[] rows = new int[MOST_HALLS];
        private final int[] firsts = new int[MOST_HALLS];
        private final int[] lasts = new int[MOST_HALLS];

        int size() {
            return size;
        }

        boolean has(int hall) {
            return hall >= 0 && hall < size;
        }

        boolean isFull() {
            return size >= MOST_HALLS;
        }

        int around(int cell) {
            for (int hall = 0; hall < size; hall++) {
                boolean isInRow = Rows.at(rows, hall) == Grid.rowOf(cell);
                if (isInRow && isWithin(Grid.columnOf(cell), Rows.at(firsts, hall), Rows.at(lasts, hall))) {
                    return hall;
                }
            }
            return NONE;
        }

        int add(int row, int first, int last) {
            int hall = size;
            Rows.put(rows, hall, row);
            Rows.put(firsts, hall, first);
            Rows.put(lasts, hall, last);
            size++;
            return hall;
        }

        int remove(int hall) {
            Rows.closeGap(rows, hall);
            Rows.closeGap(firsts, hall);
            Rows.closeGap(lasts, hall);
            size--;
            return size;
        }

        void take(Halls other) {
            size = other.size;
            Rows.take(rows, other.rows);
            Rows.take(firsts, other.firsts);
            Rows.take(lasts, other.lasts);
        }
    }

    private static final class Posts {
        private int size;
        private final int[] cells = new int[MOST_POSTS];
        private final int[] tolds = new int[MOST_POSTS];

        int size() {
            return size;
        }

        boolean has(int post) {
            return post >= 0 && post < size;
        }

        boolean isFull() {
            return size >= MOST_POSTS;
        }

        int on(int cell) {
            return Rows.placeOf(cells, size, cell);
        }

        int cellAt(int post) {
            return Rows.at(cells, post);
        }

        int toldAt(int post) {
            return Rows.at(tolds, post);
        }

        int add(int cell) {
            int post = size;
            Rows.put(cells, post, cell);
            Rows.put(tolds, post, NONE);
            size++;
            return post;
        }

        int remove(int post) {
            Rows.closeGap(cells, post);
            Rows.closeGap(tolds, post);
            size--;
            return size;
        }

        void setTold(int post, int far) {
            Rows.put(tolds, post, far);
        }

        void forgetTold() {
            for (int post = 0; post < size; post++) {
                Rows.put(tolds, post, NONE);
            }
        }

        int countTellers() {
            int count = 0;
            for (int post = 0; post < size; post++) {
                if (toldAt(post) != NONE) {
                    count++;
                }
            }
            return count;
        }

        int firstTeller() {
            for (int post = 0; post < size; post++) {
                if (toldAt(post) != NONE) {
                    return post;
                }
            }
            return NONE;
        }

        boolean isAgreedOn(int cell) {
            for (int post = 0; post < size; post++) {
                if (toldAt(post) != NONE && toldAt(post) != Grid.distance(cellAt(post), cell)) {
                    return false;
                }
            }
            return true;
        }

        void take(Posts other) {
            size = other.size;
            Rows.take(cells, other.cells);
            Rows.take(tolds, other.tolds);
        }
    }

    /** All that changes can change, so that undo and the snapshot copy a town and nothing else. */
    private static final class Town {
        private final Houses houses = new Houses();
        private final Halls halls = new Halls();
        private final Posts posts = new Posts();
        private final int[] blocks = new int[CELLS];
        private final int[] kinds = new int[CLASSES];
        private int hour = 0;
        private int day = 0;
        private int prankHouse = NONE;
        private int bells = 0;
        private int echoes = 0;
        private int bellPranks = 0;

        void take(Town other) {
            houses.take(other.houses);
            halls.take(other.halls);
            posts.take(other.posts);
            Rows.take(blocks, other.blocks);
            Rows.take(kinds, other.kinds);
            hour = other.hour;
            day = other.day;
            prankHouse = other.prankHouse;
            bells = other.bells;
            echoes = other.echoes;
            bellPranks = other.bellPranks;
        }

        int judgeHouse(int cell, int from, int to, Reason reason) {
            if (!Grid.isCell(cell) || !isHour(from) || !isHour(to)) {
                return WRONG;
            }
            if (isBlocked(cell)) {
                return reason.refuse(IS_BLOCKED, cell);
            }
            if (houses.on(cell) != NONE) {
                return reason.refuse(HAS_HOUSE, houses.on(cell));
            }
            return houses.isFull() ? reason.refuse(IS_FULL, MOST_HOUSES) : FINE;
        }

        int judgeBlock(int cell, Reason reason) {
            if (!Grid.isCell(cell)) {
                return WRONG;
            }
            return houses.on(cell) != NONE ? reason.refuse(HAS_HOUSE, houses.on(cell)) : FINE;
        }

        int judgeHall(int row, int first, int last, Reason reason) {
            if (!isLane(row) || !isLane(first) || !isLane(last) || last < first) {
                return WRONG;
            }
            for (int column = first; column <= last; column++) {
                int cell = Grid.cellAt(row, column);
                if (halls.around(cell) != NONE) {
                    return reason.refuse(HAS_HALL, cell);
                }
            }
            return halls.isFull() ? reason.refuse(IS_FULL, MOST_HALLS) : FINE;
        }

        int judgeHours(int hours) {
            return isWithin(hours, 1, MOST_HOURS) ? FINE : WRONG;
        }

        int judgeRing(int house, int shorts, int longs) {
            if (!houses.has(house)) {
                return MISSING;
            }
            return isTones(shorts) && isTones(longs) && shorts + longs > 0 ? FINE : WRONG;
        }

        int judgePost(int cell, Reason reason) {
            if (!Grid.isCell(cell)) {
                return WRONG;
            }
            if (isBlocked(cell)) {
                return reason.refuse(IS_BLOCKED, cell);
            }
            if (posts.on(cell) != NONE) {
                return reason.refuse(HAS_POST, posts.on(cell));
            }
            return posts.isFull() ? reason.refuse(IS_FULL, MOST_POSTS) : FINE;
        }

        int judgeTell(int post, int far, Reason reason) {
            if (!posts.has(post)) {
                return MISSING;
            }
            if (!isWithin(far, 0, MOST_FAR)) {
                return WRONG;
            }
            if (!hasPrank()) {
                return reason.refuse(HAS_NO_PRANK, countKind(PRANK));
            }
            return posts.toldAt(post) == far ? reason.refuse(IS_SO_ALREADY, far) : FINE;
        }

        boolean isBlocked(int cell) {
            return Rows.at(blocks, cell) == 1;
        }

        boolean turnBlock(int cell) {
            Rows.put(blocks, cell, isBlocked(cell) ? 0 : 1);
            return isBlocked(cell);
        }

        int countBlocks() {
            return Rows.sum(blocks);
        }

        int letPass(int hours) {
            int gone = hour + hours;
            day += gone / DAY_HOURS;
            hour = gone % DAY_HOURS;
            return hour;
        }

        int kindAt(int house, int hourThen, int shorts, int longs) {
            if (longs == 0 && shorts == 1) {
                return houses.isAsleep(house, hourThen) ? PRANK : VISITOR;
            }
            if (longs == 0 && shorts == 2) {
                return houses.isAsleep(house, hourThen) ? PRANK : MAIL;
            }
            return shorts == 0 && longs >= 3 ? ALARM : PRANK;
        }

        boolean isEchoed(int house, int other) {
            int hall = halls.around(houses.cellAt(house));
            return house != other && hall != NONE && hall == halls.around(houses.cellAt(other));
        }

        int shortsLeft(int house, int other, int shorts) {
            return Math.max(0, shorts - Grid.distance(houses.cellAt(house), houses.cellAt(other)));
        }

        boolean isHeardAt(int house, int other, int shorts, int longs) {
            return isEchoed(house, other) && shortsLeft(house, other, shorts) + longs > 0;
        }

        int countHearers(int house, int shorts, int longs) {
            int count = 1;
            for (int other = 0; other < houses.size(); other++) {
                if (isHeardAt(house, other, shorts, longs)) {
                    count++;
                }
            }
            return count;
        }

        int ringAt(int house, int shorts, int longs) {
            int kind = hearAt(house, shorts, longs);
            bells++;
            if (kind == PRANK) {
                bellPranks++;
                prankHouse = house;
                posts.forgetTold();
            }
            for (int other = 0; other < houses.size(); other++) {
                if (isHeardAt(house, other, shorts, longs)) {
                    hearAt(other, shortsLeft(house, other, shorts), longs);
                    echoes++;
                }
            }
            return kind;
        }

        private int hearAt(int house, int shorts, int longs) {
            int kind = kindAt(house, hour, shorts, longs);
            houses.countRing(house, kind == PRANK);
            Rows.put(kinds, kind, Rows.at(kinds, kind) + 1);
            return kind;
        }

        int countKind(int kind) {
            return Rows.at(kinds, kind);
        }

        int countRings() {
            return Rows.sum(kinds);
        }

        boolean areRingsComplete() {
            return countRings() == bells + echoes;
        }

        boolean hasPrank() {
            return prankHouse != NONE;
        }

        boolean canBeFrom(int cell) {
            return !isBlocked(cell) && posts.isAgreedOn(cell);
        }

        int countFits() {
            int count = 0;
            for (int cell = 0; cell < CELLS; cell++) {
                if (canBeFrom(cell)) {
                    count++;
                }
            }
            return count;
        }

        int countFitsAround() {
            int first = posts.firstTeller();
            if (first == NONE) {
                return CELLS - countBlocks();
            }
            int cell = posts.cellAt(first);
            int count = 0;
            for (int row = 0; row < SIDE; row++) {
                int aside = posts.toldAt(first) - Math.abs(row - Grid.rowOf(cell));
                count += aside >= 0 ? countFit(row, Grid.columnOf(cell) + aside) : 0;
                // Straight above and below, left and right are the same cell.
                count += aside > 0 ? countFit(row, Grid.columnOf(cell) - aside) : 0;
            }
            return count;
        }

        private int countFit(int row, int column) {
            int cell = Grid.cellAt(row, column);
            return cell != NONE && canBeFrom(cell) ? 1 : 0;
        }

        int fitAt(int place) {
            int count = 0;
            for (int cell = 0; cell < CELLS; cell++) {
                if (canBeFrom(cell)) {
                    if (count == place) {
                        return cell;
                    }
                    count++;
                }
            }
            return NONE;
        }

        int countOf(int what) {
            switch (what) {
                case 0:
                    return hour;
                case 1:
                    return day;
                case 2:
                    return houses.size();
                case 3:
                    return halls.size();
                case 4:
                    return posts.size();
                case 5:
                    return posts.countTellers();
                case 6:
                    return countBlocks();
                case 7:
                    return bells;
                case 8:
                    return echoes;
                case 9:
                    return bellPranks;
                default:
                    return prankHouse;
            }
        }
    }

    /** The rows in which ways are measured, and the round of the post. */
    private static final class Ways {
        private static final int SIDES = 4;

        private final int[] steps = new int[CELLS];
        private final int[] queue = new int[CELLS];
        private final int[] lows = new int[CELLS];
        private final int[] stops = new int[MOST_HOUSES];
        private int stopCount = 0;
        private int stepSum = 0;

        int stepsTo(Town town, int start, int end) {
            measure(town, start);
            return Rows.at(steps, end);
        }

        int lowestTo(Town town, int start, int end) {
            lower(town, start);
            return Rows.at(lows, end);
        }

        boolean areWaysAlike(Town town) {
            if (!town.houses.has(0)) {
                return true;
            }
            measure(town, town.houses.cellAt(0));
            lower(town, town.houses.cellAt(0));
            for (int house = 0; house < town.houses.size(); house++) {
                int cell = town.houses.cellAt(house);
                if (Rows.at(steps, cell) != Rows.at(lows, cell)) {
                    return false;
                }
            }
            return true;
        }

        private void measure(Town town, int start) {
            clear(steps);
            Rows.put(steps, start, 0);
            Rows.put(queue, 0, start);
            int waiting = 1;
            for (int next = 0; next < waiting && next < CELLS; next++) {
                int cell = Rows.at(queue, next);
                for (int side = 0; side < SIDES; side++) {
                    int other = Grid.nextTo(cell, side);
                    if (other != NONE && !town.isBlocked(other) && Rows.at(steps, other) == NONE) {
                        Rows.put(steps, other, Rows.at(steps, cell) + 1);
                        Rows.put(queue, waiting, other);
                        waiting++;
                    }
                }
            }
        }

        private void lower(Town town, int start) {
            clear(lows);
            Rows.put(lows, start, 0);
            boolean isChanged = true;
            // Each turn settles one more step of every way, and no way has more steps than there are cells.
            for (int turn = 0; turn <= CELLS && isChanged; turn++) {
                isChanged = false;
                for (int cell = 0; cell < CELLS; cell++) {
                    isChanged = lowerAlong(town, cell, Grid.nextTo(cell, 1)) || isChanged;
                    isChanged = lowerAlong(town, cell, Grid.nextTo(cell, 3)) || isChanged;
                }
            }
        }

        private boolean lowerAlong(Town town, int one, int other) {
            if (other == NONE) {
                return false;
            }
            boolean isThere = lowerFrom(town, one, other);
            boolean isBack = lowerFrom(town, other, one);
            return isThere || isBack;
        }

        private boolean lowerFrom(Town town, int from, int to) {
            int low = Rows.at(lows, from);
            int now = Rows.at(lows, to);
            if (low == NONE || town.isBlocked(to) || (now != NONE && now <= low + 1)) {
                return false;
            }
            Rows.put(lows, to, low + 1);
            return true;
        }

        private static void clear(int[] row) {
            for (int place = 0; place < row.length; place++) {
                row[place] = NONE;
            }
        }

        void goRound(Town town) {
            stopCount = 0;
            stepSum = 0;
            int house = town.houses.has(0) ? 0 : NONE;
            for (int stop = 0; stop < MOST_HOUSES && house != NONE; stop++) {
                Rows.put(stops, stop, house);
                stopCount++;
                measure(town, town.houses.cellAt(house));
                house = nearest(town.houses);
                stepSum += house == NONE ? 0 : Rows.at(steps, town.houses.cellAt(house));
            }
        }

        private int nearest(Houses houses) {
            int best = NONE;
            int least = NONE;
            for (int house = 0; house < houses.size(); house++) {
                int far = Rows.at(steps, houses.cellAt(house));
                boolean isNew = Rows.placeOf(stops, stopCount, house) == NONE;
                if (isNew && far != NONE && (least == NONE || far < least)) {
                    best = house;
                    least = far;
                }
            }
            return best;
        }

        int stopAt(int place) {
            return place < stopCount ? Rows.at(stops, place) : NONE;
        }

        int roundSteps() {
            return stepSum;
        }
    }

    /** The line that was written last. */
    private static final class Sheet {
        private final char[] signs = new char[LONGEST_LINE];
        private int size = 0;

        boolean has(int index) {
            return index >= 0 && index < size;
        }

        char signAt(int index) {
            return index >= 0 && index < signs.length ? signs[index] : ' ';
        }

        int writeRow(Town town, int row) {
            size = 0;
            for (int column = 0; column < SIDE; column++) {
                putSign(signOf(town, Grid.cellAt(row, column)));
            }
            return size;
        }

        private static char signOf(Town town, int cell) {
            int house = town.houses.on(cell);
            if (house != NONE) {
                return digit(house);
            }
            if (town.isBlocked(cell)) {
                return '#';
            }
            if (town.posts.on(cell) != NONE) {
                return 'o';
            }
            return town.halls.around(cell) != NONE ? '_' : '.';
        }

        int writeHouse(Houses houses, int house, int hour) {
            size = 0;
            putNumber(house);
            putSign('@');
            putNumber(houses.cellAt(house));
            if (houses.sleepAt(house) > 0) {
                putSign(' ');
                putNumber(houses.fromAt(house));
                putSign('-');
                putNumber(houses.toAt(house));
            }
            if (houses.isAsleep(house, hour)) {
                putSign('z');
            }
            for (int mark = 0; mark < MOST_MARKS && mark < houses.pranksAt(house); mark++) {
                putSign('!');
            }
            return size;
        }

        private void putNumber(int number) {
            if (number >= 10) {
                putSign(digit(number / 10));
            }
            putSign(digit(number % 10));
        }

        private static char digit(int number) {
            return (char) ('0' + number);
        }

        private void putSign(char sign) {
            if (size < signs.length) {
                signs[size] = sign;
                size++;
            }
        }
    }

    /** The input, and the orders that were read from it last. */
    private static final class Orders {
        private static final int NUMBERS = 3;
        private static final char[] STARTS = {'h', 'b', 'e', 'r', 'p', 't', 'w'};

        private final char[] signs = new char[MOST_SIGNS];
        private final int[] kinds = new int[MOST_SIGNS];
        private final int[] numbers = new int[NUMBERS * MOST_SIGNS];
        private int size = 0;
        private int count = 0;
        private int place = 0;
        private int errorPlace = NONE;

        int size() {
            return size;
        }

        int count() {
            return count;
        }

        int errorPlace() {
            return errorPlace;
        }

        boolean isFull() {
            return size >= MOST_SIGNS;
        }

        int add(char sign) {
            if (size < signs.length) {
                signs[size] = sign;
                size++;
            }
            return size;
        }

        void clear() {
            size = 0;
        }

        int kindAt(int order) {
            return Rows.at(kinds, order);
        }

        int numberAt(int order, int which) {
            return Rows.at(numbers, NUMBERS * order + which);
        }

        /** Reads the input as orders, up to its end or to the place of its error. */
        boolean read() {
            place = 0;
            count = 0;
            boolean isGood = readOrder();
            for (int turn = 0; turn < MOST_SIGNS && isGood && place < size; turn++) {
                isGood = readSign(';') && readOrder();
            }
            errorPlace = isGood ? NONE : place;
            return isGood;
        }

        private boolean readOrder() {
            int kind = kindOf(signHere());
            if (kind == NONE) {
                return false;
            }
            place++;
            Rows.put(kinds, count, kind);
            if (!readForm(formOf(kind))) {
                return false;
            }
            count++;
            return true;
        }

        private static int kindOf(int sign) {
            for (int kind = 0; kind < STARTS.length; kind++) {
                if (STARTS[kind] == sign) {
                    return kind;
                }
            }
            return NONE;
        }

        /** What follows the first sign of an order: 1 and 2 stand for a number of at most so many digits. */
        private static String formOf(int kind) {
            switch (kind) {
                case ORDER_HOUSE:
                    return "2/2-2";
                case ORDER_HALL:
                    return "1:1-1";
                case ORDER_RING:
                    return "1:1+1";
                case ORDER_TELL:
                    return "1=2";
                default:
                    return "2";
            }
        }

        private boolean readForm(String form) {
            int which = 0;
            for (int part = 0; part < form.length(); part++) {
                char sign = form.charAt(part);
                if (sign != '1' && sign != '2') {
                    if (!readSign(sign)) {
                        return false;
                    }
                } else {
                    int number = readNumber(sign == '2');
                    if (number == NONE) {
                        return false;
                    }
                    Rows.put(numbers, NUMBERS * count + which, number);
                    which++;
                }
            }
            return true;
        }

        private boolean readSign(char sign) {
            if (signHere() != sign) {
                return false;
            }
            place++;
            return true;
        }

        private int readNumber(boolean isLong) {
            int number = digitHere();
            if (number == NONE) {
                return NONE;
            }
            place++;
            int second = isLong ? digitHere() : NONE;
            if (second == NONE) {
                return number;
            }
            place++;
            return 10 * number + second;
        }

        private int digitHere() {
            int sign = signHere();
            return isWithin(sign, '0', '9') ? sign - '0' : NONE;
        }

        private int signHere() {
            return place >= 0 && place < size && place < signs.length ? signs[place] : NONE;
        }
    }

    /** The towns ahead of the latest changes, in a ring in which the next one takes the place of the oldest. */
    private static final class Past {
        private final Town[] towns = new Town[MOST_UNDONE];
        private int size = 0;
        private int next = 0;

        Past() {
            for (int place = 0; place < towns.length; place++) {
                towns[place] = new Town();
            }
        }

        int size() {
            return size;
        }

        void clear() {
            size = 0;
        }

        void push(Town town) {
            Town slot = slotAt(next);
            if (slot != null) {
                slot.take(town);
                next = (next + 1) % MOST_UNDONE;
                size = Math.min(size + 1, MOST_UNDONE);
            }
        }

        void pop(Town town) {
            int latest = (next + MOST_UNDONE - 1) % MOST_UNDONE;
            Town slot = slotAt(latest);
            if (slot != null && size > 0) {
                town.take(slot);
                next = latest;
                size--;
            }
        }

        private Town slotAt(int place) {
            return place >= 0 && place < towns.length ? towns[place] : null;
        }
    }

    /** The latest refusal, which neither undo nor the snapshot touches. */
    private static final class Reason {
        private int number = NONE;
        private int detail = NONE;

        boolean isGiven() {
            return number != NONE;
        }

        int refuse(int newNumber, int newDetail) {
            number = newNumber;
            detail = newDetail;
            return REFUSED;
        }
    }
}
