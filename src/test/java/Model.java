import java.util.ArrayDeque;
import java.util.ArrayList;
import java.util.Deque;
import java.util.List;
import java.util.NoSuchElementException;
import java.util.TreeSet;
import java.util.regex.Matcher;
import java.util.regex.Pattern;

/** The document once more, written with the Java library and in another way than the class, to be compared with it. */
public final class Model {
    private static final String CELL = "\\d{1,2}";
    private static final String ORDER = "(?:h" + CELL + "/" + CELL + "-" + CELL + "|b" + CELL + "|e\\d:\\d-\\d"
            + "|r\\d:\\d\\+\\d|p" + CELL + "|t\\d=" + CELL + "|w" + CELL + ")";
    private static final Pattern TEXT = Pattern.compile(ORDER + "(?:;" + ORDER + ")*");

    private record House(int cell, int from, int to, int rings, int pranks) {
        TreeSet<Integer> sleep() {
            TreeSet<Integer> hours = new TreeSet<>();
            for (int hour = from; hour != to; hour = (hour + 1) % 24) {
                hours.add(hour);
            }
            return hours;
        }
    }

    private record Post(int cell, Integer told) { }

    private record Town(List<House> houses, List<TreeSet<Integer>> halls, List<Post> posts, TreeSet<Integer> blocks,
            int hours, Integer prank, List<Integer> bells, List<Integer> echoes) {
        Town copy() {
            List<TreeSet<Integer>> newHalls = new ArrayList<>();
            for (TreeSet<Integer> hall : halls) {
                newHalls.add(new TreeSet<>(hall));
            }
            return new Town(new ArrayList<>(houses), newHalls, new ArrayList<>(posts), new TreeSet<>(blocks), hours,
                    prank, new ArrayList<>(bells), new ArrayList<>(echoes));
        }

        Town at(int newHours) {
            return new Town(houses, halls, posts, blocks, newHours, prank, bells, echoes);
        }

        Town lookingFor(int house) {
            return new Town(houses, halls, posts, blocks, hours, house, bells, echoes);
        }
    }

    private static final class Refused extends UnsupportedOperationException {
        private static final long serialVersionUID = 1L;
        private final int reason;
        private final int detail;

        Refused(int reason, int detail) {
            this.reason = reason;
            this.detail = detail;
        }
    }

    private Town now = new Town(new ArrayList<>(), new ArrayList<>(), new ArrayList<>(), new TreeSet<>(), 0, null,
            new ArrayList<>(), new ArrayList<>());
    private Town snapshot = null;
    private final Deque<Town> past = new ArrayDeque<>();
    private Refused latest = null;
    private String input = "";
    private String written = "";
    private int errorAt = -1;

    private interface Change {
        Object make();
    }

    /** Makes a change of a copy of the town, which takes the town's place only if nothing is thrown. */
    private Object change(Change change) {
        Town ahead = now;
        now = now.copy();
        try {
            Object answer = change.make();
            past.addLast(ahead);
            if (past.size() > 8) {
                past.removeFirst();
            }
            return answer;
        } catch (Refused refused) {
            latest = refused;
            now = ahead;
            throw refused;
        } catch (RuntimeException thrown) {
            now = ahead;
            throw thrown;
        }
    }

    private static void improperUnless(boolean isProper) {
        if (!isProper) {
            throw new IllegalArgumentException();
        }
    }

    private static void listedUnless(boolean isListed) {
        if (!isListed) {
            throw new IndexOutOfBoundsException();
        }
    }

    private static void foundUnless(boolean isFound) {
        if (!isFound) {
            throw new NoSuchElementException();
        }
    }

    private static boolean in(int number, int end) {
        return 0 <= number && number < end;
    }

    private int houseOn(int cell) {
        return now.houses.stream().map(House::cell).toList().indexOf(cell);
    }

    private int hallOf(int cell) {
        for (TreeSet<Integer> hall : now.halls) {
            if (hall.contains(cell)) {
                return now.halls.indexOf(hall);
            }
        }
        return -1;
    }

    private int hourNow() {
        return now.hours % 24;
    }

    public int house(int cell, int from, int to) {
        return (int) change(() -> setHouse(cell, from, to));
    }

    private int setHouse(int cell, int from, int to) {
        improperUnless(in(cell, 64) && in(from, 24) && in(to, 24));
        if (now.blocks.contains(cell)) {
            throw new Refused(2, cell);
        }
        if (houseOn(cell) >= 0) {
            throw new Refused(3, houseOn(cell));
        }
        if (now.houses.size() == 10) {
            throw new Refused(1, 10);
        }
        now.houses.add(new House(cell, from, to, 0, 0));
        return now.houses.size() - 1;
    }

    public int goAway(int house) {
        return (int) change(() -> {
            listedUnless(in(house, now.houses.size()));
            now.houses.remove(house);
            return now.houses.size();
        });
    }

    public boolean block(int cell) {
        return (boolean) change(() -> setBlock(cell));
    }

    private boolean setBlock(int cell) {
        improperUnless(in(cell, 64));
        if (houseOn(cell) >= 0) {
            throw new Refused(3, houseOn(cell));
        }
        return now.blocks.remove(cell) ? false : now.blocks.add(cell);
    }

    public int hall(int row, int first, int last) {
        return (int) change(() -> setHall(row, first, last));
    }

    private int setHall(int row, int first, int last) {
        improperUnless(in(row, 8) && in(first, 8) && in(last, 8) && first <= last);
        TreeSet<Integer> cells = new TreeSet<>();
        for (int column = first; column <= last; column++) {
            cells.add(8 * row + column);
        }
        TreeSet<Integer> taken = new TreeSet<>();
        now.halls.forEach(taken::addAll);
        taken.retainAll(cells);
        if (!taken.isEmpty()) {
            throw new Refused(4, taken.first());
        }
        if (now.halls.size() == 4) {
            throw new Refused(1, 4);
        }
        now.halls.add(cells);
        return now.halls.size() - 1;
    }

    public int dropHall(int hall) {
        return (int) change(() -> {
            listedUnless(in(hall, now.halls.size()));
            now.halls.remove(hall);
            return now.halls.size();
        });
    }

    public int pass(int hours) {
        return (int) change(() -> letPass(hours));
    }

    private int letPass(int hours) {
        improperUnless(1 <= hours && hours <= 99);
        now = now.at(now.hours + hours);
        return hourNow();
    }

    public int houseOf(int house, int what) {
        listedUnless(in(house, now.houses.size()));
        improperUnless(in(what, 8));
        House h = now.houses.get(house);
        return new int[] {h.cell, h.from, h.to, h.rings, h.pranks, hallOf(h.cell),
            h.sleep().contains(hourNow()) ? 1 : 0, h.sleep().size()}[what];
    }

    public int asleep(int hour, boolean isAgain) {
        improperUnless(in(hour, 24));
        return (int) now.houses.stream().filter(h -> h.sleep().contains(hour)).count();
    }

    public int deepest() {
        int best = 0;
        for (int hour = 23; hour >= 0; hour--) {
            best = asleep(hour, false) >= asleep(best, false) ? hour : best;
        }
        foundUnless(asleep(best, false) > 0);
        return best;
    }

    private static int classBy(House house, int hour, String tones) {
        int kind = tones.equals("s") ? 0 : tones.equals("ss") ? 1 : tones.matches("lll+") ? 2 : 3;
        return kind < 2 && house.sleep().contains(hour) ? 3 : kind;
    }

    private static String tones(int shorts, int longs) {
        improperUnless(in(shorts, 10) && in(longs, 10) && shorts + longs > 0);
        return "s".repeat(shorts) + "l".repeat(longs);
    }

    private static String echoOf(String tones, int far) {
        String rest = tones;
        for (int i = 0; i < far; i++) {
            rest = rest.startsWith("s") ? rest.substring(1) : rest;
        }
        return rest;
    }

    public int ring(int house, int shorts, int longs) {
        return (int) change(() -> setRing(house, shorts, longs));
    }

    private int setRing(int house, int shorts, int longs) {
        listedUnless(in(house, now.houses.size()));
        String tones = tones(shorts, longs);
        int kind = count(house, tones);
        now.bells.add(kind);
        for (int other : inHallWith(house)) {
            String echo = echoOf(tones, apart(now.houses.get(house).cell, now.houses.get(other).cell));
            if (!echo.isEmpty()) {
                now.echoes.add(count(other, echo));
            }
        }
        if (kind == 3) {
            now = now.lookingFor(house);
            now.posts.replaceAll(post -> new Post(post.cell, null));
        }
        return kind;
    }

    private int count(int house, String tones) {
        House h = now.houses.get(house);
        int kind = classBy(h, hourNow(), tones);
        now.houses.set(house, new House(h.cell, h.from, h.to, h.rings + 1, h.pranks + (kind == 3 ? 1 : 0)));
        return kind;
    }

    private List<Integer> inHallWith(int house) {
        List<Integer> others = new ArrayList<>();
        int hall = hallOf(now.houses.get(house).cell);
        for (int other = 0; other < now.houses.size(); other++) {
            if (other != house && hall >= 0 && now.halls.get(hall).contains(now.houses.get(other).cell)) {
                others.add(other);
            }
        }
        return others;
    }

    public int classOf(int house, int hour, int shorts, int longs) {
        listedUnless(in(house, now.houses.size()));
        improperUnless(in(hour, 24));
        return classBy(now.houses.get(house), hour, tones(shorts, longs));
    }

    public int echo(int house, int other, int shorts) {
        listedUnless(in(house, now.houses.size()) && in(other, now.houses.size()));
        improperUnless(in(shorts, 10));
        foundUnless(inHallWith(house).contains(other));
        return echoOf("s".repeat(shorts), apart(now.houses.get(house).cell, now.houses.get(other).cell)).length();
    }

    public int heard(int house, int shorts, int longs) {
        listedUnless(in(house, now.houses.size()));
        String tones = tones(shorts, longs);
        return 1 + (int) inHallWith(house).stream()
                .filter(o -> !echoOf(tones, apart(now.houses.get(house).cell, now.houses.get(o).cell)).isEmpty())
                .count();
    }

    private List<Integer> allRings() {
        List<Integer> all = new ArrayList<>(now.bells);
        all.addAll(now.echoes);
        return all;
    }

    public int rings(int kind) {
        improperUnless(in(kind, 4));
        return (int) allRings().stream().filter(k -> k == kind).count();
    }

    public int post(int cell) {
        return (int) change(() -> setPost(cell));
    }

    private int setPost(int cell) {
        improperUnless(in(cell, 64));
        if (now.blocks.contains(cell)) {
            throw new Refused(2, cell);
        }
        int there = now.posts.stream().map(Post::cell).toList().indexOf(cell);
        if (there >= 0) {
            throw new Refused(7, there);
        }
        if (now.posts.size() == 4) {
            throw new Refused(1, 4);
        }
        now.posts.add(new Post(cell, null));
        return now.posts.size() - 1;
    }

    public int dropPost(int post) {
        return (int) change(() -> {
            listedUnless(in(post, now.posts.size()));
            now.posts.remove(post);
            return now.posts.size();
        });
    }

    public int tell(int post, int far) {
        return (int) change(() -> setTold(post, far));
    }

    private int setTold(int post, int far) {
        listedUnless(in(post, now.posts.size()));
        improperUnless(in(far, 15));
        if (now.prank == null) {
            throw new Refused(5, rings(3));
        }
        Integer told = now.posts.get(post).told;
        if (told != null && told == far) {
            throw new Refused(6, far);
        }
        now.posts.set(post, new Post(now.posts.get(post).cell, far));
        return fitList().size();
    }

    public int postOf(int post, int what) {
        listedUnless(in(post, now.posts.size()));
        improperUnless(in(what, 2));
        foundUnless(what == 0 || now.posts.get(post).told != null);
        return what == 0 ? now.posts.get(post).cell : now.posts.get(post).told;
    }

    private List<Integer> fitList() {
        foundUnless(now.prank != null);
        List<Integer> cells = new ArrayList<>();
        for (int cell = 0; cell < 64; cell++) {
            int c = cell;
            if (!now.blocks.contains(c)
                    && now.posts.stream().allMatch(p -> p.told == null || apart(p.cell, c) == p.told)) {
                cells.add(c);
            }
        }
        return cells;
    }

    public boolean fits(int cell) {
        improperUnless(in(cell, 64));
        return fitList().contains(cell);
    }

    public int fitting(boolean isAgain) {
        return fitList().size();
    }

    public int fix(int place) {
        foundUnless(in(place, fitList().size()));
        return fitList().get(place);
    }

    public int apart(int one, int other) {
        improperUnless(in(one, 64) && in(other, 64));
        int rows = one / 8 - other / 8;
        int columns = one % 8 - other % 8;
        return Math.max(rows, -rows) + Math.max(columns, -columns);
    }

    /** Grows the set of cells that so many steps reach, until it grows no more. */
    public int way(int one, int other, boolean isAgain) {
        improperUnless(in(one, 64) && in(other, 64));
        TreeSet<Integer> reached = new TreeSet<>(List.of(one));
        for (int far = 0; !reached.contains(other); far++) {
            TreeSet<Integer> more = new TreeSet<>(reached);
            for (int cell : reached) {
                for (int end : new int[] {cell - 8, cell - 1, cell + 1, cell + 8}) {
                    if (in(end, 64) && apart(cell, end) == 1 && !now.blocks.contains(end)) {
                        more.add(end);
                    }
                }
            }
            foundUnless(more.size() > reached.size());
            reached = more;
            if (reached.contains(other)) {
                return far + 1;
            }
        }
        return 0;
    }

    private Integer wayOrNone(int one, int other) {
        try {
            return way(one, other, false);
        } catch (NoSuchElementException none) {
            return null;
        }
    }

    /** The houses of the round, with all steps at the end. */
    private List<Integer> rounds() {
        List<Integer> stops = new ArrayList<>();
        int sum = 0;
        Integer next = now.houses.isEmpty() ? null : 0;
        while (next != null) {
            stops.add(next);
            int here = now.houses.get(next).cell;
            next = null;
            Integer best = null;
            for (int house = now.houses.size() - 1; house >= 0; house--) {
                Integer far = stops.contains(house) ? null : wayOrNone(here, now.houses.get(house).cell);
                if (far != null && (best == null || far <= best)) {
                    best = far;
                    next = house;
                }
            }
            sum += best == null ? 0 : best;
        }
        stops.add(sum);
        return stops;
    }

    public int round(int place) {
        List<Integer> stops = rounds();
        foundUnless(in(place, stops.size() - 1));
        return stops.get(place);
    }

    public int steps() {
        List<Integer> stops = rounds();
        return stops.get(stops.size() - 1);
    }

    public int ranked(int place) {
        foundUnless(in(place, now.houses.size()));
        List<Integer> order = new ArrayList<>();
        for (int house = 0; house < now.houses.size(); house++) {
            order.add(house);
        }
        // The sort is stable, so that alike ones stay by their numbers.
        order.sort((a, b) -> {
            House one = now.houses.get(a);
            House other = now.houses.get(b);
            return one.pranks != other.pranks ? other.pranks - one.pranks : other.rings - one.rings;
        });
        return order.get(place);
    }

    public int line(int row) {
        improperUnless(in(row, 8));
        StringBuilder line = new StringBuilder();
        for (int cell = 8 * row; cell < 8 * row + 8; cell++) {
            int c = cell;
            if (houseOn(cell) >= 0) {
                line.append(houseOn(cell));
            } else if (now.blocks.contains(cell)) {
                line.append("#");
            } else if (now.posts.stream().anyMatch(p -> p.cell == c)) {
                line.append("o");
            } else {
                line.append(hallOf(cell) >= 0 ? "_" : ".");
            }
        }
        written = line.toString();
        return written.length();
    }

    public int houseLine(int house) {
        listedUnless(in(house, now.houses.size()));
        House h = now.houses.get(house);
        written = house + "@" + h.cell + (h.from == h.to ? "" : " " + h.from + "-" + h.to)
                + (h.sleep().contains(hourNow()) ? "z" : "") + "!".repeat(Math.min(9, h.pranks));
        return written.length();
    }

    public char character(int index) {
        listedUnless(in(index, written.length()));
        return written.charAt(index);
    }

    public int append(char c) {
        if (input.length() >= 60) {
            throw new IllegalStateException();
        }
        input += c;
        return input.length();
    }

    public int run() {
        String text = input;
        input = "";
        Matcher whole = TEXT.matcher(text);
        errorAt = whole.matches() ? -1 : errorOf(text);
        improperUnless(errorAt < 0);
        return (int) change(() -> {
            String[] orders = text.split(";");
            for (String order : orders) {
                carryOut(order);
            }
            return orders.length;
        });
    }

    /** The first character behind which no text can go on, as the matcher tells by where it stopped. */
    private static int errorOf(String text) {
        for (int length = 1; length <= text.length(); length++) {
            Matcher start = TEXT.matcher(text.substring(0, length));
            if (!start.matches() && !start.hitEnd()) {
                return length - 1;
            }
        }
        return text.length();
    }

    private void carryOut(String order) {
        String[] parts = order.substring(1).split("[^0-9]");
        int[] n = new int[3];
        for (int i = 0; i < parts.length; i++) {
            n[i] = Integer.parseInt(parts[i]);
        }
        try {
            switch (order.charAt(0)) {
                case 'h' -> setHouse(n[0], n[1], n[2]);
                case 'b' -> setBlock(n[0]);
                case 'e' -> setHall(n[0], n[1], n[2]);
                case 'r' -> setRing(n[0], n[1], n[2]);
                case 'p' -> setPost(n[0]);
                case 't' -> setTold(n[0], n[1]);
                default -> letPass(n[0]);
            }
        } catch (IndexOutOfBoundsException missing) {
            throw new IllegalArgumentException();
        }
    }

    public int errorPosition() {
        return errorAt;
    }

    public int refusal(boolean isDetail) {
        foundUnless(latest != null);
        return isDetail ? latest.detail : latest.reason;
    }

    public int account(int what) {
        improperUnless(in(what, 13));
        return new int[] {hourNow(), now.hours / 24, now.houses.size(), now.halls.size(), now.posts.size(),
            (int) now.posts.stream().filter(p -> p.told != null).count(), now.blocks.size(), now.bells.size(),
            now.echoes.size(), (int) now.bells.stream().filter(k -> k == 3).count(),
            now.prank == null ? -1 : now.prank, input.length(), past.size()}[what];
    }

    public boolean isWell() {
        return true;
    }

    public double meanSleep() {
        if (now.houses.isEmpty()) {
            throw new ArithmeticException();
        }
        double sum = now.houses.stream().mapToInt(h -> h.sleep().size()).sum();
        return sum / now.houses.size();
    }

    public float prankShare() {
        if (allRings().isEmpty()) {
            throw new ArithmeticException();
        }
        float pranks = rings(3);
        return pranks / allRings().size();
    }

    public int undo() {
        if (past.isEmpty()) {
            throw new IllegalStateException();
        }
        now = past.removeLast();
        return past.size();
    }

    public int save() {
        snapshot = now.copy();
        return now.houses.size();
    }

    public int restore() {
        if (snapshot == null) {
            throw new IllegalStateException();
        }
        now = snapshot.copy();
        past.clear();
        return now.houses.size();
    }
}
