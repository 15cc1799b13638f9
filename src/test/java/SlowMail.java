import java.util.ArrayDeque;
import java.util.ArrayList;
import java.util.Deque;
import java.util.HashSet;
import java.util.List;
import java.util.NoSuchElementException;
import java.util.Set;
import java.util.TreeSet;
import java.util.regex.Matcher;
import java.util.regex.Pattern;

/**
 * The document written down a second time, as near to its words and as slow as may be: the
 * oracle that CrossingMail is compared with.
 */
public final class SlowMail {
    private static final int NONE = -1;

    static final class Failure extends Exception {
        private static final long serialVersionUID = 1L;
        final int kind;
        final int offset;

        Failure(int kind, int offset) {
            this.kind = kind;
            this.offset = offset;
        }
    }

    static final class Piece {
        int from;
        int to;
        int value;
        int state = 0;
        int where;
        int posted;
        int promised = NONE;
        int since = NONE;
        boolean claimed = false;
        Set<Integer> trace = new TreeSet<>();

        Piece copy() {
            Piece other = new Piece();
            other.from = from;
            other.to = to;
            other.value = value;
            other.state = state;
            other.where = where;
            other.posted = posted;
            other.promised = promised;
            other.since = since;
            other.claimed = claimed;
            other.trace = new TreeSet<>(trace);
            return other;
        }
    }

    static final class World {
        int time = 0;
        int capacity = 8;
        int swaps = 0;
        Set<Integer> strikers = new TreeSet<>();
        List<Integer> sackOfCarrier = new ArrayList<>();
        List<Piece> pieces = new ArrayList<>();
        List<int[]> receipts = new ArrayList<>();
        List<int[]> lost = new ArrayList<>();

        World copy() {
            World other = new World();
            other.time = time;
            other.capacity = capacity;
            other.swaps = swaps;
            other.strikers = new TreeSet<>(strikers);
            other.sackOfCarrier = new ArrayList<>(sackOfCarrier);
            for (Piece piece : pieces) {
                other.pieces.add(piece.copy());
            }
            other.receipts = new ArrayList<>(receipts);
            other.lost = new ArrayList<>(lost);
            return other;
        }
    }

    static final class Chart {
        List<String> places = new ArrayList<>();
        List<Boolean> villages = new ArrayList<>();
        List<String> carriers = new ArrayList<>();
        /** For each carrier and weekday the stops, each an hour and a place; null without a route. */
        List<List<List<int[]>>> routes = new ArrayList<>();

        int at(int carrier, int hour) {
            List<int[]> route = routes.get(carrier).get(hour / 24 % 7);
            if (route != null) {
                for (int[] stop : route) {
                    if (stop[0] == hour % 24) {
                        return stop[1];
                    }
                }
            }
            return NONE;
        }
    }

    private StringBuilder buffer = new StringBuilder();
    private String formatted = "";
    private int badOffset = NONE;
    private int badKind = 0;
    private Chart chart = new Chart();
    private World world = new World();
    private final Deque<World> past = new ArrayDeque<>();

    public int append(int w0, int w1, int w2, int w3, int w4) {
        if (buffer.length() > 880) {
            return NONE;
        }
        for (int w : new int[] {w0, w1, w2, w3, w4}) {
            buffer.append((char) (w >> 24 & 255)).append((char) (w >> 16 & 255));
            buffer.append((char) (w >> 8 & 255)).append((char) (w & 255));
        }
        return buffer.length();
    }

    public boolean truncate(int length) {
        if (length < 0 || length > buffer.length()) {
            return false;
        }
        buffer.setLength(length);
        return true;
    }

    public int load() {
        String text = buffer.toString();
        buffer.setLength(0);
        Chart newChart = new Chart();
        World newWorld = new World();
        try {
            new Reader(text, newChart, newWorld).read();
        } catch (Failure f) {
            badKind = f.kind;
            badOffset = f.offset;
            throw new IllegalArgumentException();
        }
        badKind = 0;
        badOffset = NONE;
        chart = newChart;
        world = newWorld;
        past.clear();
        for (int c = 0; c < chart.carriers.size(); c++) {
            world.sackOfCarrier.add(c);
        }
        for (Piece piece : world.pieces) {
            piece.promised = arrival(0, NONE, piece.from, piece.to, 240);
        }
        return chart.places.size();
    }

    /** Splits the text into tokens first, and then goes through them with an index. */
    static final class Reader {
        private static final Pattern TOKEN = Pattern.compile("[a-z]+|[0-9]+|;|[^ \\t\\n]");
        private final List<String> tokens = new ArrayList<>();
        private final List<Integer> offsets = new ArrayList<>();
        private final Chart chart;
        private final World world;
        private int next = 0;

        Reader(String text, Chart chart, World world) {
            this.chart = chart;
            this.world = world;
            Matcher matcher = TOKEN.matcher(text);
            while (matcher.find()) {
                tokens.add(matcher.group());
                offsets.add(matcher.start());
            }
            tokens.add("");
            offsets.add(text.length());
        }

        void read() throws Failure {
            while (!tokens.get(next).isEmpty()) {
                line();
                if (!tokens.get(next).equals(";")) {
                    throw here(1);
                }
                next++;
            }
        }

        private Failure here(int kind) {
            return new Failure(kind, offsets.get(next));
        }

        private void line() throws Failure {
            switch (tokens.get(next)) {
                case "village":
                case "crossing":
                    place(tokens.get(next).equals("village"));
                    break;
                case "carrier":
                    if (chart.carriers.size() == 5) {
                        throw here(4);
                    }
                    next++;
                    if (chart.carriers.contains(name())) {
                        throw here(3);
                    }
                    chart.carriers.add(tokens.get(next++));
                    List<List<int[]>> week = new ArrayList<>();
                    for (int day = 0; day < 7; day++) {
                        week.add(null);
                    }
                    chart.routes.add(week);
                    break;
                case "route":
                    route();
                    break;
                case "capacity":
                    next++;
                    world.capacity = number(1, 20);
                    next++;
                    break;
                case "letter":
                    letterLine();
                    break;
                default:
                    throw here(1);
            }
        }

        private void place(boolean village) throws Failure {
            if (chart.places.size() == 10) {
                throw here(4);
            }
            next++;
            if (chart.places.contains(name())) {
                throw here(3);
            }
            chart.places.add(tokens.get(next++));
            chart.villages.add(village);
        }

        private void route() throws Failure {
            if (chart.carriers.isEmpty()) {
                throw here(1);
            }
            next++;
            int days = number(1, 127);
            List<List<int[]>> week = chart.routes.get(chart.routes.size() - 1);
            List<int[]> route = new ArrayList<>();
            for (int day = 0; day < 7; day++) {
                if ((days >> day & 1) == 1) {
                    if (week.get(day) != null) {
                        throw here(2);
                    }
                    week.set(day, route);
                }
            }
            next++;
            do {
                if (route.size() == 6) {
                    throw here(4);
                }
                int hour = number(0, 23);
                if (!route.isEmpty() && hour <= route.get(route.size() - 1)[0]) {
                    throw here(2);
                }
                next++;
                int place = chart.places.indexOf(name());
                if (place < 0) {
                    throw here(3);
                }
                next++;
                route.add(new int[] {hour, place});
            } while (tokens.get(next).matches("[0-9]+"));
        }

        private void letterLine() throws Failure {
            if (world.pieces.size() == 30) {
                throw here(4);
            }
            next++;
            Piece piece = new Piece();
            piece.from = village();
            next++;
            piece.to = village();
            if (piece.to == piece.from) {
                throw here(3);
            }
            next++;
            piece.where = piece.from;
            if (tokens.get(next).equals("insured")) {
                next++;
                piece.value = number(1, 999);
                next++;
            }
            world.pieces.add(piece);
        }

        private int village() throws Failure {
            int place = chart.places.indexOf(name());
            if (place < 0 || !chart.villages.get(place)) {
                throw here(3);
            }
            return place;
        }

        private String name() throws Failure {
            if (!tokens.get(next).matches("[a-z]{1,6}")) {
                throw here(1);
            }
            return tokens.get(next);
        }

        private int number(int least, int most) throws Failure {
            String token = tokens.get(next);
            if (!token.matches("[0-9]+")) {
                throw here(1);
            }
            if (token.length() > 3 || Integer.parseInt(token) < least || Integer.parseInt(token) > most) {
                throw here(2);
            }
            return Integer.parseInt(token);
        }
    }

    public int errorOffset() {
        return badOffset;
    }

    public int errorKind() {
        return badKind;
    }

    private boolean village(int place) {
        return place >= 0 && place < chart.places.size() && chart.villages.get(place);
    }

    private void need(int index, int size) {
        if (index < 0 || index >= size) {
            throw new IndexOutOfBoundsException();
        }
    }

    private void needPlace(int place) {
        need(place, chart.places.size());
    }

    private void needCarrier(int carrier) {
        need(carrier, chart.carriers.size());
    }

    private void needLetter(int letter) {
        need(letter, world.pieces.size());
    }

    private void needWhat(int what, int most) {
        if (what < 0 || what > most) {
            throw new NoSuchElementException();
        }
    }

    public int count(int what) {
        needWhat(what, 8);
        int villages = 0;
        for (boolean village : chart.villages) {
            villages += village ? 1 : 0;
        }
        return new int[] {chart.places.size(), villages, chart.carriers.size(), world.pieces.size(),
            world.lost.size(), Math.min(60, world.receipts.size()), world.capacity, world.time, world.swaps}[what];
    }

    public boolean isVillage(int place) {
        needPlace(place);
        return chart.villages.get(place);
    }

    public int placeNamed() {
        String name = buffer.toString();
        buffer.setLength(0);
        return chart.places.indexOf(name);
    }

    public int stop(int carrier, int weekday, int k) {
        needCarrier(carrier);
        needWhat(weekday, 6);
        List<int[]> route = chart.routes.get(carrier).get(weekday);
        return route == null || k < 0 || k >= route.size() ? NONE : 100 * route.get(k)[0] + route.get(k)[1];
    }

    private int presentPlace(int carrier, int hour) {
        return world.strikers.contains(carrier) ? NONE : chart.at(carrier, hour);
    }

    public int placeOf(int carrier) {
        needCarrier(carrier);
        return presentPlace(carrier, world.time);
    }

    public int nextStop(int carrier) {
        needCarrier(carrier);
        for (int wait = 0; wait < 200; wait++) {
            if (chart.at(carrier, world.time + wait) != NONE) {
                return wait;
            }
        }
        return NONE;
    }

    public boolean isOnStrike(int carrier) {
        needCarrier(carrier);
        return world.strikers.contains(carrier);
    }

    public int carriersAt(int place) {
        needPlace(place);
        Set<Integer> set = new TreeSet<>();
        for (int c = 0; c < chart.carriers.size(); c++) {
            for (List<int[]> route : chart.routes.get(c)) {
                if (route != null) {
                    for (int[] stop : route) {
                        if (stop[1] == place) {
                            set.add(c);
                        }
                    }
                }
            }
        }
        return bits(set);
    }

    private static int bits(Set<Integer> set) {
        int bits = 0;
        for (int k : set) {
            bits |= 1 << k;
        }
        return bits;
    }

    public int meetings() {
        int pairs = 0;
        for (int place = 0; place < chart.places.size(); place++) {
            for (int hour = 0; hour < 168; hour++) {
                int here = 0;
                for (int c = 0; c < chart.carriers.size(); c++) {
                    here += chart.at(c, hour) == place ? 1 : 0;
                }
                pairs += here >= 2 && !chart.villages.get(place) ? 1 : 0;
            }
        }
        return pairs;
    }

    public int sackOf(int carrier) {
        needCarrier(carrier);
        return world.sackOfCarrier.get(carrier);
    }

    public int carrierOf(int sack) {
        needCarrier(sack);
        return world.sackOfCarrier.indexOf(sack);
    }

    private List<Integer> inside(int state, int where) {
        List<Integer> list = new ArrayList<>();
        for (int i = 0; i < world.pieces.size(); i++) {
            if (world.pieces.get(i).state == state && world.pieces.get(i).where == where) {
                list.add(i);
            }
        }
        return list;
    }

    private int worth(List<Integer> list) {
        int sum = 0;
        for (int i : list) {
            sum += world.pieces.get(i).value;
        }
        return sum;
    }

    private static int element(List<Integer> list, int k) {
        return k < 0 || k >= list.size() ? NONE : list.get(k);
    }

    public int sackCount(int sack) {
        needCarrier(sack);
        return inside(1, sack).size();
    }

    public int sackLetter(int sack, int k) {
        needCarrier(sack);
        return element(inside(1, sack), k);
    }

    public int sackValue(int sack) {
        needCarrier(sack);
        return worth(inside(1, sack));
    }

    public int officeCount(int place) {
        needPlace(place);
        return inside(0, place).size();
    }

    public int officeLetter(int place, int k) {
        needPlace(place);
        return element(inside(0, place), k);
    }

    public int letter(int letter, int what) {
        needLetter(letter);
        needWhat(what, 8);
        Piece p = world.pieces.get(letter);
        return new int[] {p.from, p.to, p.value, p.state, p.where, p.posted, p.promised, p.since,
            p.claimed ? 1 : 0}[what];
    }

    public int trace(int letter) {
        needLetter(letter);
        return bits(world.pieces.get(letter).trace);
    }

    public int suspects(int letter) {
        needLetter(letter);
        Piece p = world.pieces.get(letter);
        if (p.state != 3) {
            return 0;
        }
        return p.value == 0 ? bits(p.trace) : 1 << world.lost.get(p.where)[0];
    }

    public boolean isLate(int letter) {
        needLetter(letter);
        Piece p = world.pieces.get(letter);
        if (p.promised == NONE) {
            return false;
        }
        return p.state == 2 ? p.since > p.promised : world.time > p.promised;
    }

    public int letters(int what) {
        needWhat(what, 8);
        int number = 0;
        for (int i = 0; i < world.pieces.size(); i++) {
            Piece p = world.pieces.get(i);
            boolean[] is = {p.state == 0, p.state == 1, p.state == 2, p.state == 3, p.value > 0, isLate(i),
                p.promised == NONE, p.claimed, p.trace.size() > 1};
            number += is[what] ? 1 : 0;
        }
        return number;
    }

    public double punctuality() {
        int hands = 0;
        int good = 0;
        for (int i = 0; i < world.pieces.size(); i++) {
            hands += world.pieces.get(i).state == 2 ? 1 : 0;
            good += world.pieces.get(i).state == 2 && !isLate(i) ? 1 : 0;
        }
        return hands == 0 ? 0.0 : (double) good / hands;
    }

    /** The sacks after the swaps of this hour. */
    private List<Integer> swapped(List<Integer> sacks, int hour, int place) {
        List<Integer> after = new ArrayList<>(sacks);
        List<Integer> here = present(hour, place);
        for (int i = 0; i < here.size(); i++) {
            after.set(here.get(i), sacks.get(here.get((i + 1) % here.size())));
        }
        return after;
    }

    private List<Integer> present(int hour, int place) {
        List<Integer> here = new ArrayList<>();
        for (int c = 0; c < chart.carriers.size(); c++) {
            if (presentPlace(c, hour) == place) {
                here.add(c);
            }
        }
        return here;
    }

    /** With real sets of sacks and of offices, and the sacks swapped from the present ones on. */
    private int arrival(int hour, int sack, int office, int to, int hours) {
        Set<Integer> sackSet = new HashSet<>();
        Set<Integer> officeSet = new HashSet<>();
        if (sack != NONE) {
            sackSet.add(sack);
        } else {
            officeSet.add(office);
        }
        List<Integer> sacks = new ArrayList<>(world.sackOfCarrier);
        for (int t = hour; t < hour + hours; t++) {
            for (int place = 0; place < chart.places.size(); place++) {
                if (!chart.villages.get(place)) {
                    sacks = swapped(sacks, t, place);
                }
            }
            for (int c = 0; c < chart.carriers.size(); c++) {
                if (village(presentPlace(c, t)) && sackSet.contains(sacks.get(c))) {
                    officeSet.add(presentPlace(c, t));
                }
            }
            for (int c = 0; c < chart.carriers.size(); c++) {
                if (village(presentPlace(c, t)) && officeSet.contains(presentPlace(c, t))) {
                    sackSet.add(sacks.get(c));
                }
            }
            if (officeSet.contains(to)) {
                return t;
            }
        }
        return NONE;
    }

    private void needVillages(int from, int to) {
        if (!village(from) || !village(to) || from == to) {
            throw new IllegalArgumentException();
        }
    }

    public int promise(int from, int to) {
        needVillages(from, to);
        int arrival = arrival(world.time, NONE, from, to, 240);
        return arrival == NONE ? NONE : arrival - world.time;
    }

    public int promisedDays(int from, int to) {
        needVillages(from, to);
        int arrival = arrival(world.time, NONE, from, to, 240);
        return arrival == NONE ? NONE : arrival / 24 - world.time / 24;
    }

    public int reach(int from) {
        if (!village(from)) {
            throw new IllegalArgumentException();
        }
        Set<Integer> set = new TreeSet<>();
        for (int to = 0; to < chart.places.size(); to++) {
            if (to != from && village(to) && arrival(world.time, NONE, from, to, 240) != NONE) {
                set.add(to);
            }
        }
        return bits(set);
    }

    public int bestWait(int from, int to) {
        needVillages(from, to);
        int best = NONE;
        int shortest = Integer.MAX_VALUE;
        for (int wait = 0; wait < 168; wait++) {
            int arrival = arrival(world.time + wait, NONE, from, to, 240);
            if (arrival != NONE && arrival - world.time - wait < shortest) {
                best = wait;
                shortest = arrival - world.time - wait;
            }
        }
        return best;
    }

    public int expected(int letter) {
        needLetter(letter);
        Piece p = world.pieces.get(letter);
        if (p.state > 1) {
            return NONE;
        }
        int arrival = arrival(world.time, p.state == 1 ? p.where : NONE, p.where, p.to, 240);
        return arrival == NONE ? NONE : arrival - world.time;
    }

    public int receipt(int ago, int what) {
        needWhat(what, 4);
        int size = world.receipts.size();
        return ago < 0 || ago >= Math.min(60, size) ? NONE : world.receipts.get(size - 1 - ago)[what];
    }

    public int lastReceipt(int letter) {
        needLetter(letter);
        for (int ago = 0; ago < count(5); ago++) {
            if (receipt(ago, 1) == letter) {
                return ago;
            }
        }
        return NONE;
    }

    public int lostSack(int lost, int what) {
        need(lost, world.lost.size());
        needWhat(what, 3);
        List<Integer> list = inside(3, lost);
        return new int[] {world.lost.get(lost)[0], world.lost.get(lost)[1], list.size(), worth(list)}[what];
    }

    private void record() {
        past.addLast(world.copy());
        if (past.size() > 8) {
            past.removeFirst();
        }
    }

    private void write(int letter, int kind, int carrier, int place) {
        if (world.pieces.get(letter).value > 0) {
            world.receipts.add(new int[] {world.time, letter, kind, carrier, place});
        }
    }

    public int post(int from, int to, int value) {
        needVillages(from, to);
        if (value < 0 || value > 999) {
            throw new IllegalArgumentException();
        }
        if (world.pieces.size() == 30) {
            throw new IllegalStateException();
        }
        record();
        Piece p = new Piece();
        p.from = from;
        p.to = to;
        p.value = value;
        p.where = from;
        p.posted = world.time;
        p.promised = arrival(world.time, NONE, from, to, 240);
        world.pieces.add(p);
        return world.pieces.size() - 1;
    }

    public int run(int hours) {
        if (hours < 1 || hours > 168) {
            throw new IllegalArgumentException();
        }
        record();
        int before = letters(2);
        for (int i = 0; i < hours; i++) {
            hour();
        }
        return letters(2) - before;
    }

    private void hour() {
        for (int place = 0; place < chart.places.size(); place++) {
            List<Integer> here = present(world.time, place);
            if (!chart.villages.get(place) && here.size() > 1) {
                world.sackOfCarrier = swapped(world.sackOfCarrier, world.time, place);
                world.swaps++;
                for (int i = 0; i < world.pieces.size(); i++) {
                    Piece p = world.pieces.get(i);
                    if (p.state == 1 && here.contains(world.sackOfCarrier.indexOf(p.where))) {
                        p.trace.add(world.sackOfCarrier.indexOf(p.where));
                        write(i, 3, world.sackOfCarrier.indexOf(p.where), place);
                    }
                }
            }
        }
        for (int place = 0; place < chart.places.size(); place++) {
            List<Integer> here = present(world.time, place);
            if (chart.villages.get(place) && !here.isEmpty()) {
                serve(place, here);
            }
        }
        world.time++;
    }

    private void serve(int place, List<Integer> here) {
        Set<Integer> sacks = new TreeSet<>();
        for (int c : here) {
            sacks.add(world.sackOfCarrier.get(c));
        }
        List<int[]> looked = new ArrayList<>();
        for (int i = 0; i < world.pieces.size(); i++) {
            Piece p = world.pieces.get(i);
            if (p.state == 1 && sacks.contains(p.where)) {
                if (p.to == place) {
                    write(i, 2, world.sackOfCarrier.indexOf(p.where), place);
                    p.state = 2;
                    p.where = place;
                    p.since = world.time;
                } else {
                    looked.add(new int[] {i, p.where});
                    p.state = NONE;
                }
            } else if (p.state == 0 && p.where == place) {
                looked.add(new int[] {i, NONE});
                p.state = NONE;
            }
        }
        for (int[] one : looked) {
            place(one[0], one[1], place, sacks);
        }
    }

    private void place(int letter, int origin, int place, Set<Integer> sacks) {
        Piece p = world.pieces.get(letter);
        int waiting = arrival(world.time + 1, NONE, place, p.to, 240);
        int best = NONE;
        int first = Integer.MAX_VALUE;
        for (int sack : sacks) {
            int arrival = arrival(world.time + 1, sack, NONE, p.to, 240);
            if (inside(1, sack).size() < world.capacity && arrival != NONE && arrival < first) {
                best = sack;
                first = arrival;
            }
        }
        if (best != NONE && (waiting == NONE || first <= waiting)) {
            int carrier = world.sackOfCarrier.indexOf(best);
            p.state = 1;
            p.where = best;
            p.trace.add(carrier);
            if (origin != best) {
                write(letter, 0, carrier, place);
            }
        } else {
            p.state = 0;
            p.where = place;
            if (origin != NONE) {
                write(letter, 1, world.sackOfCarrier.indexOf(origin), place);
            }
        }
    }

    public int lose(int carrier) {
        needCarrier(carrier);
        record();
        List<Integer> list = inside(1, world.sackOfCarrier.get(carrier));
        if (!list.isEmpty()) {
            world.lost.add(new int[] {carrier, world.time});
        }
        for (int i : list) {
            world.pieces.get(i).state = 3;
            world.pieces.get(i).where = world.lost.size() - 1;
            write(i, 4, carrier, NONE);
        }
        return list.size();
    }

    public int find(int lost, int village) {
        need(lost, world.lost.size());
        if (!village(village)) {
            throw new IllegalArgumentException();
        }
        record();
        List<Integer> list = inside(3, lost);
        for (int i : list) {
            Piece p = world.pieces.get(i);
            p.where = village;
            p.state = p.to == village ? 2 : 0;
            p.since = p.to == village ? world.time : NONE;
            write(i, 5, NONE, village);
        }
        world.lost.remove(lost);
        for (Piece p : world.pieces) {
            if (p.state == 3 && p.where > lost) {
                p.where--;
            }
        }
        return list.size();
    }

    public int claim(int letter) {
        needLetter(letter);
        Piece p = world.pieces.get(letter);
        if (p.value == 0 || p.state != 3 || world.time - world.lost.get(p.where)[1] < 72 || p.claimed) {
            throw new IllegalStateException();
        }
        record();
        world.pieces.get(letter).claimed = true;
        return p.value;
    }

    public boolean strike(int carrier, boolean on) {
        needCarrier(carrier);
        record();
        boolean before = world.strikers.contains(carrier);
        if (on) {
            world.strikers.add(carrier);
        } else {
            world.strikers.remove(carrier);
        }
        return before;
    }

    public int setCapacity(int capacity) {
        if (capacity < 1 || capacity > 20) {
            throw new IllegalArgumentException();
        }
        record();
        int before = world.capacity;
        world.capacity = capacity;
        return before;
    }

    public int undo() {
        if (past.isEmpty()) {
            return NONE;
        }
        world = past.removeLast();
        return past.size();
    }

    public int undoDepth() {
        return past.size();
    }

    public int formatLetter(int letter) {
        needLetter(letter);
        Piece p = world.pieces.get(letter);
        String[] where = {"office " + (p.state == 0 ? chart.places.get(p.where) : ""), "sack " + p.where, "hand",
            "lost"};
        formatted = chart.places.get(p.from) + ">" + chart.places.get(p.to) + " " + where[p.state]
            + (isLate(letter) ? " !" : "");
        return formatted.length();
    }

    public int formatCarrier(int carrier) {
        needCarrier(carrier);
        formatted = chart.carriers.get(carrier) + ": " + world.sackOfCarrier.get(carrier);
        for (int i : inside(1, world.sackOfCarrier.get(carrier))) {
            formatted += " " + i + (world.pieces.get(i).value > 0 ? "*" : "");
        }
        return formatted.length();
    }

    public int formattedByte(int index) {
        return index < 0 || index >= formatted.length() ? NONE : formatted.charAt(index);
    }
}
