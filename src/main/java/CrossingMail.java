import java.util.NoSuchElementException;

/**
 * Mail between villages: carriers go their routes by weekdays and hours, swap whole sacks where
 * they meet at crossings, letters change sacks at offices so that they arrive as early as
 * possible, insured letters are followed by receipts, sacks are lost, traced and found, and days
 * are promised.
 */
public final class CrossingMail {
    public static final int NONE = -1;
    public static final int IN_OFFICE = 0;
    public static final int IN_SACK = 1;
    public static final int IN_HAND = 2;
    public static final int LOST = 3;
    public static final int SYNTAX = 1;
    public static final int BAD_NUMBER = 2;
    public static final int BAD_NAME = 3;
    public static final int TOO_MANY = 4;

    private static final int MAX_BYTES = 900;
    private static final int MAX_PLACES = 10;
    private static final int MAX_CARRIERS = 5;
    private static final int MAX_STOPS = 6;
    private static final int MAX_LETTERS = 30;
    private static final int MAX_CAPACITY = 20;
    private static final int MAX_VALUE = 999;
    private static final int MAX_RECEIPTS = 60;
    private static final int MAX_UNDO = 8;
    private static final int MAX_NAME = 6;
    private static final int MAX_DIGITS = 3;
    private static final int MAX_LINE = 160;
    private static final int BYTES_APPENDED = 20;
    private static final int USUAL_CAPACITY = 8;
    private static final int DAY = 24;
    private static final int WEEKDAYS = 7;
    private static final int WEEK = 168;
    private static final int HOURS_LOOKED_AT = 240;
    private static final int CLAIM_HOURS = 72;

    private static final int INTO_SACK = 0;
    private static final int INTO_OFFICE = 1;
    private static final int INTO_HAND = 2;
    private static final int SACK_SWAPPED = 3;
    private static final int SACK_LOST = 4;
    private static final int SACK_FOUND = 5;

    private final int[] buffer = new int[MAX_BYTES];
    private int bufferLength = 0;
    private int badOffset = NONE;
    private int badKind = 0;
    private final Parser parser = new Parser();
    private final Timetable table = new Timetable();
    private final State state = new State();
    private final History history = new History();
    private final Spread spread = new Spread();
    private final HourWork hourWork = new HourWork();
    private final Line line = new Line();

    public CrossingMail() {
    }

    // ---- input

    public int append(int w0, int w1, int w2, int w3, int w4) {
        if (bufferLength + BYTES_APPENDED > MAX_BYTES) {
            return NONE;
        }
        appendWord(w0);
        appendWord(w1);
        appendWord(w2);
        appendWord(w3);
        appendWord(w4);
        return bufferLength;
    }

    private void appendWord(int word) {
        for (int shift = 24; shift >= 0; shift -= 8) {
            if (bufferLength < MAX_BYTES) {
                buffer[bufferLength] = (word >>> shift) & 255;
                bufferLength++;
            }
        }
    }

    public boolean truncate(int length) {
        if (length < 0 || length > bufferLength) {
            return false;
        }
        bufferLength = length;
        return true;
    }

    public int load() throws IllegalArgumentException {
        boolean correct = parser.parse(buffer, bufferLength);
        bufferLength = 0;
        badOffset = parser.offset;
        badKind = parser.kind;
        if (!correct) {
            throw new IllegalArgumentException();
        }
        table.copyFrom(parser.table);
        state.copyFrom(parser.state);
        history.forget();
        promiseLetters();
        return table.placeCount;
    }

    /** Letters may stand before routes in the text, so they are promised behind the whole text. */
    private void promiseLetters() {
        Letters letters = state.letters;
        for (int i = 0; i < letters.size; i++) {
            letters.promised[i] = arrivalFromOffice(letters.from[i], letters.to[i]);
        }
    }

    public int errorOffset() {
        return badOffset;
    }

    public int errorKind() {
        return badKind;
    }

    // ---- places, carriers, routes

    public int count(int what) throws NoSuchElementException {
        switch (what) {
            case 0:
                return table.placeCount;
            case 1:
                return Integer.bitCount(table.villages);
            case 2:
                return table.carrierCount;
            case 3:
                return state.letters.size;
            case 4:
                return state.lostSacks.size;
            case 5:
                return state.receipts.kept;
            case 6:
                return state.capacity;
            case 7:
                return state.time;
            case 8:
                return state.swaps;
            default:
                throw new NoSuchElementException();
        }
    }

    public boolean isVillage(int place) throws IndexOutOfBoundsException {
        needIndex(place, table.placeCount);
        return table.hasOffice(place);
    }

    public int placeNamed() {
        int name = Parser.nameIn(buffer, 0, bufferLength);
        bufferLength = 0;
        return table.placeOfName(name);
    }

    public int stop(int carrier, int weekday, int k) throws IndexOutOfBoundsException, NoSuchElementException {
        needIndex(carrier, table.carrierCount);
        if (weekday < 0 || weekday >= WEEKDAYS) {
            throw new NoSuchElementException();
        }
        int before = 0;
        for (int hour = 0; hour < DAY; hour++) {
            int place = table.stopPlace(carrier, weekday * DAY + hour);
            if (place != NONE) {
                if (before == k) {
                    return 100 * hour + place;
                }
                before++;
            }
        }
        return NONE;
    }

    public int placeOf(int carrier) throws IndexOutOfBoundsException {
        needIndex(carrier, table.carrierCount);
        return has(state.striking, carrier) ? NONE : table.stopPlace(carrier, state.time);
    }

    public int nextStop(int carrier) throws IndexOutOfBoundsException {
        needIndex(carrier, table.carrierCount);
        for (int wait = 0; wait < WEEK; wait++) {
            if (table.stopPlace(carrier, state.time + wait) != NONE) {
                return wait;
            }
        }
        return NONE;
    }

    public boolean isOnStrike(int carrier) throws IndexOutOfBoundsException {
        needIndex(carrier, table.carrierCount);
        return has(state.striking, carrier);
    }

    public int carriersAt(int place) throws IndexOutOfBoundsException {
        needIndex(place, table.placeCount);
        int set = 0;
        for (int hour = 0; hour < WEEK; hour++) {
            set |= table.carriersStopping(hour, place);
        }
        return set;
    }

    public int meetings() {
        int pairs = 0;
        for (int hour = 0; hour < WEEK; hour++) {
            for (int place = 0; place < table.placeCount; place++) {
                if (!table.hasOffice(place) && Integer.bitCount(table.carriersStopping(hour, place)) >= 2) {
                    pairs++;
                }
            }
        }
        return pairs;
    }

    // ---- sacks, offices, letters

    public int sackOf(int carrier) throws IndexOutOfBoundsException {
        needIndex(carrier, table.carrierCount);
        return state.sackWith(carrier);
    }

    public int carrierOf(int sack) throws IndexOutOfBoundsException {
        needIndex(sack, table.carrierCount);
        return state.carrierWith(sack);
    }

    public int sackCount(int sack) throws IndexOutOfBoundsException {
        needIndex(sack, table.carrierCount);
        return state.letters.countIn(IN_SACK, sack);
    }

    public int sackLetter(int sack, int k) throws IndexOutOfBoundsException {
        needIndex(sack, table.carrierCount);
        return state.letters.numberIn(IN_SACK, sack, k);
    }

    public int sackValue(int sack) throws IndexOutOfBoundsException {
        needIndex(sack, table.carrierCount);
        return state.letters.valueIn(IN_SACK, sack);
    }

    public int officeCount(int place) throws IndexOutOfBoundsException {
        needIndex(place, table.placeCount);
        return state.letters.countIn(IN_OFFICE, place);
    }

    public int officeLetter(int place, int k) throws IndexOutOfBoundsException {
        needIndex(place, table.placeCount);
        return state.letters.numberIn(IN_OFFICE, place, k);
    }

    public int letter(int letter, int what) throws IndexOutOfBoundsException, NoSuchElementException {
        needIndex(letter, state.letters.size);
        if (what < 0 || what > 8) {
            throw new NoSuchElementException();
        }
        return state.letters.property(letter, what);
    }

    public int trace(int letter) throws IndexOutOfBoundsException {
        needIndex(letter, state.letters.size);
        return state.letters.trace[letter];
    }

    public int suspects(int letter) throws IndexOutOfBoundsException {
        Letters letters = state.letters;
        needIndex(letter, letters.size);
        if (letters.kind[letter] != LOST) {
            return 0;
        }
        if (letters.value[letter] == 0) {
            return letters.trace[letter];
        }
        return bit(state.lostSacks.carrierOfLost(letters.where[letter]));
    }

    public boolean isLate(int letter) throws IndexOutOfBoundsException {
        needIndex(letter, state.letters.size);
        return state.letters.lateAt(letter, state.time);
    }

    public int letters(int what) throws NoSuchElementException {
        if (what < 0 || what > 8) {
            throw new NoSuchElementException();
        }
        int number = 0;
        for (int i = 0; i < state.letters.size; i++) {
            if (isCounted(i, what)) {
                number++;
            }
        }
        return number;
    }

    private boolean isCounted(int i, int what) {
        Letters letters = state.letters;
        switch (what) {
            case 4:
                return letters.value[i] != 0;
            case 5:
                return letters.lateAt(i, state.time);
            case 6:
                return letters.promised[i] == NONE;
            case 7:
                return letters.claimed[i] != 0;
            case 8:
                return Integer.bitCount(letters.trace[i]) >= 2;
            default:
                return letters.kind[i] == what;
        }
    }

    public double punctuality() {
        int inHands = 0;
        int inTime = 0;
        for (int i = 0; i < state.letters.size; i++) {
            if (state.letters.kind[i] == IN_HAND) {
                inHands++;
                if (!state.letters.lateAt(i, state.time)) {
                    inTime++;
                }
            }
        }
        return inHands == 0 ? 0.0 : (double) inTime / (double) inHands;
    }

    // ---- promises

    public int promise(int from, int to) throws IllegalArgumentException {
        needJourney(from, to);
        int arrival = arrivalFromOffice(from, to);
        return arrival == NONE ? NONE : arrival - state.time;
    }

    public int promisedDays(int from, int to) throws IllegalArgumentException {
        needJourney(from, to);
        int arrival = arrivalFromOffice(from, to);
        return arrival == NONE ? NONE : arrival / DAY - state.time / DAY;
    }

    public int reach(int from) throws IllegalArgumentException {
        needVillage(from);
        int others = table.villages & ~bit(from);
        spread.begin(bit(from), 0);
        spread.follow(table, ~state.striking, state.time, HOURS_LOOKED_AT, others);
        return spread.offices & others;
    }

    public int bestWait(int from, int to) throws IllegalArgumentException {
        needJourney(from, to);
        int best = NONE;
        int limit = HOURS_LOOKED_AT;
        for (int wait = 0; wait < WEEK; wait++) {
            int posted = state.time + wait;
            spread.begin(bit(from), 0);
            // Only a shorter journey is of interest, so fewer hours need be looked at.
            spread.follow(table, ~state.striking, posted, limit, bit(to));
            int arrival = spread.arrivalAt(to);
            if (arrival != NONE) {
                best = wait;
                limit = arrival - posted;
            }
        }
        return best;
    }

    public int expected(int letter) throws IndexOutOfBoundsException {
        Letters letters = state.letters;
        needIndex(letter, letters.size);
        int arrival = NONE;
        if (letters.kind[letter] == IN_OFFICE) {
            arrival = arrivalFromOffice(letters.where[letter], letters.to[letter]);
        } else if (letters.kind[letter] == IN_SACK) {
            int to = letters.to[letter];
            spread.begin(0, bit(state.holderOf(letter)));
            spread.follow(table, ~state.striking, state.time, HOURS_LOOKED_AT, bit(to));
            arrival = spread.arrivalAt(to);
        }
        return arrival == NONE ? NONE : arrival - state.time;
    }

    private int arrivalFromOffice(int from, int to) {
        spread.begin(bit(from), 0);
        spread.follow(table, ~state.striking, state.time, HOURS_LOOKED_AT, bit(to));
        return spread.arrivalAt(to);
    }

    // ---- receipts and lost sacks

    public int receipt(int ago, int what) throws NoSuchElementException {
        if (what < 0 || what >= Receipts.PARTS) {
            throw new NoSuchElementException();
        }
        return state.receipts.part(ago, what);
    }

    public int lastReceipt(int letter) throws IndexOutOfBoundsException {
        needIndex(letter, state.letters.size);
        for (int ago = 0; ago < state.receipts.kept; ago++) {
            if (state.receipts.part(ago, Receipts.LETTER) == letter) {
                return ago;
            }
        }
        return NONE;
    }

    public int lostSack(int lost, int what) throws IndexOutOfBoundsException, NoSuchElementException {
        needIndex(lost, state.lostSacks.size);
        switch (what) {
            case 0:
                return state.lostSacks.carrierOfLost(lost);
            case 1:
                return state.lostSacks.hourOfLost(lost);
            case 2:
                return state.letters.countIn(LOST, lost);
            case 3:
                return state.letters.valueIn(LOST, lost);
            default:
                throw new NoSuchElementException();
        }
    }

    // ---- actions

    public int post(int from, int to, int value) throws IllegalArgumentException, IllegalStateException {
        needJourney(from, to);
        if (value < 0 || value > MAX_VALUE) {
            throw new IllegalArgumentException();
        }
        if (state.letters.size >= MAX_LETTERS) {
            throw new IllegalStateException();
        }
        history.keep(state);
        return state.letters.add(from, to, value, state.time, arrivalFromOffice(from, to));
    }

    public int run(int hours) throws IllegalArgumentException {
        if (hours < 1 || hours > WEEK) {
            throw new IllegalArgumentException();
        }
        history.keep(state);
        int arrived = 0;
        for (int done = 0; done < hours; done++) {
            arrived += hourWork.processHour(table, state);
        }
        return arrived;
    }

    public int lose(int carrier) throws IndexOutOfBoundsException {
        needIndex(carrier, table.carrierCount);
        history.keep(state);
        return state.loseSack(carrier);
    }

    public int find(int lost, int village) throws IndexOutOfBoundsException, IllegalArgumentException {
        needIndex(lost, state.lostSacks.size);
        needVillage(village);
        history.keep(state);
        return state.findSack(lost, village);
    }

    public int claim(int letter) throws IndexOutOfBoundsException, IllegalStateException {
        Letters letters = state.letters;
        needIndex(letter, letters.size);
        if (letters.value[letter] == 0 || letters.claimed[letter] != 0 || letters.kind[letter] != LOST
                || state.time - state.lostSacks.hourOfLost(letters.where[letter]) < CLAIM_HOURS) {
            throw new IllegalStateException();
        }
        history.keep(state);
        letters.claimed[letter] = 1;
        return letters.value[letter];
    }

    public boolean strike(int carrier, boolean on) throws IndexOutOfBoundsException {
        needIndex(carrier, table.carrierCount);
        history.keep(state);
        boolean before = has(state.striking, carrier);
        state.striking = on ? state.striking | bit(carrier) : state.striking & ~bit(carrier);
        return before;
    }

    public int setCapacity(int capacity) throws IllegalArgumentException {
        if (capacity < 1 || capacity > MAX_CAPACITY) {
            throw new IllegalArgumentException();
        }
        history.keep(state);
        int before = state.capacity;
        state.capacity = capacity;
        return before;
    }

    public int undo() {
        return history.restore(state) ? history.depth : NONE;
    }

    public int undoDepth() {
        return history.depth;
    }

    // ---- formatted text

    public int formatLetter(int letter) throws IndexOutOfBoundsException {
        Letters letters = state.letters;
        needIndex(letter, letters.size);
        line.length = 0;
        line.putName(table.nameOfPlace(letters.from[letter]));
        line.put('>');
        line.putName(table.nameOfPlace(letters.to[letter]));
        line.put(' ');
        putWhereabouts(letters.kind[letter], letters.where[letter]);
        if (letters.lateAt(letter, state.time)) {
            line.putText(" !");
        }
        return line.length;
    }

    private void putWhereabouts(int kind, int where) {
        if (kind == IN_OFFICE) {
            line.putText("office ");
            line.putName(table.nameOfPlace(where));
        } else if (kind == IN_SACK) {
            line.putText("sack ");
            line.putNumber(where);
        } else {
            line.putText(kind == IN_HAND ? "hand" : "lost");
        }
    }

    public int formatCarrier(int carrier) throws IndexOutOfBoundsException {
        needIndex(carrier, table.carrierCount);
        Letters letters = state.letters;
        int sack = state.sackWith(carrier);
        line.length = 0;
        line.putName(table.nameOfCarrier(carrier));
        line.putText(": ");
        line.putNumber(sack);
        for (int i = 0; i < letters.size; i++) {
            if (letters.isIn(i, IN_SACK, sack)) {
                line.put(' ');
                line.putNumber(i);
                if (letters.value[i] != 0) {
                    line.put('*');
                }
            }
        }
        return line.length;
    }

    public int formattedByte(int index) {
        return line.signAt(index);
    }

    // ---- what several of the methods above share

    private static void needIndex(int index, int size) {
        if (index < 0 || index >= size) {
            throw new IndexOutOfBoundsException();
        }
    }

    private void needVillage(int place) {
        if (!table.hasOffice(place)) {
            throw new IllegalArgumentException();
        }
    }

    private void needJourney(int from, int to) {
        needVillage(from);
        needVillage(to);
        if (from == to) {
            throw new IllegalArgumentException();
        }
    }

    /** The bit set with this number alone; the empty one for NONE. */
    private static int bit(int number) {
        return number < 0 || number > 30 ? 0 : 1 << number;
    }

    private static boolean has(int set, int number) {
        return number >= 0 && number <= 30 && (set >> number & 1) != 0;
    }

    /** Places, carriers and routes: all that load alone changes. */
    static final class Timetable {
        int placeCount = 0;
        int villages = 0;
        int carrierCount = 0;
        private final int[] placeNames = new int[MAX_PLACES];
        private final int[] carrierNames = new int[MAX_CARRIERS];
        private final int[] routeDays = new int[MAX_CARRIERS];
        /** For each hour of the week and each place the set of the carriers that stop there. */
        private final int[] stops = new int[WEEK * MAX_PLACES];
        /** For each hour of the week the set of the places at which a carrier stops. */
        private final int[] placesUsed = new int[WEEK];

        Timetable() {
        }

        void clear() {
            placeCount = 0;
            villages = 0;
            carrierCount = 0;
            for (int i = 0; i < stops.length; i++) {
                stops[i] = 0;
            }
            for (int hour = 0; hour < WEEK; hour++) {
                placesUsed[hour] = 0;
            }
        }

        void copyFrom(Timetable other) {
            placeCount = other.placeCount;
            villages = other.villages;
            carrierCount = other.carrierCount;
            System.arraycopy(other.placeNames, 0, placeNames, 0, MAX_PLACES);
            System.arraycopy(other.carrierNames, 0, carrierNames, 0, MAX_CARRIERS);
            System.arraycopy(other.routeDays, 0, routeDays, 0, MAX_CARRIERS);
            System.arraycopy(other.stops, 0, stops, 0, WEEK * MAX_PLACES);
            System.arraycopy(other.placesUsed, 0, placesUsed, 0, WEEK);
        }

        void addPlace(int name, boolean village) {
            if (placeCount < MAX_PLACES) {
                placeNames[placeCount] = name;
                if (village) {
                    villages |= bit(placeCount);
                }
                placeCount++;
            }
        }

        void addCarrier(int name) {
            if (carrierCount < MAX_CARRIERS) {
                carrierNames[carrierCount] = name;
                routeDays[carrierCount] = 0;
                carrierCount++;
            }
        }

        /** The weekdays on which the carrier that was added last has a route. */
        int daysOfLastCarrier() {
            int last = carrierCount - 1;
            return last < 0 || last >= MAX_CARRIERS ? 0 : routeDays[last];
        }

        void addRouteDays(int days) {
            int last = carrierCount - 1;
            if (last >= 0 && last < MAX_CARRIERS) {
                routeDays[last] |= days;
            }
        }

        void addStop(int days, int hour, int place) {
            for (int day = 0; day < WEEKDAYS; day++) {
                int at = day * DAY + hour;
                if (has(days, day) && at >= 0 && at < WEEK && place >= 0 && place < MAX_PLACES) {
                    stops[at * MAX_PLACES + place] |= bit(carrierCount - 1);
                    placesUsed[at] |= bit(place);
                }
            }
        }

        boolean hasOffice(int place) {
            return has(villages, place);
        }

        int placeOfName(int name) {
            for (int place = 0; place < placeCount; place++) {
                if (placeNames[place] == name) {
                    return place;
                }
            }
            return NONE;
        }

        boolean hasCarrierNamed(int name) {
            for (int carrier = 0; carrier < carrierCount; carrier++) {
                if (carrierNames[carrier] == name) {
                    return true;
                }
            }
            return false;
        }

        int nameOfPlace(int place) {
            return place < 0 || place >= placeCount ? 0 : placeNames[place];
        }

        int nameOfCarrier(int carrier) {
            return carrier < 0 || carrier >= carrierCount ? 0 : carrierNames[carrier];
        }

        /** The set of the places at which carriers stop in this hour, on strike or not. */
        int placesAt(int hour) {
            return placesUsed[Math.floorMod(hour, WEEK)];
        }

        /** The set of the carriers that stop at the place in this hour, on strike or not. */
        int carriersStopping(int hour, int place) {
            if (place < 0 || place >= MAX_PLACES) {
                return 0;
            }
            return stops[Math.floorMod(hour, WEEK) * MAX_PLACES + place];
        }

        /** The place at which the carrier stops in this hour, on strike or not. */
        int stopPlace(int carrier, int hour) {
            for (int place = 0; place < placeCount; place++) {
                if (has(carriersStopping(hour, place), carrier)) {
                    return place;
                }
            }
            return NONE;
        }
    }

    /** The letters, by number. */
    static final class Letters {
        int size = 0;
        final int[] from = new int[MAX_LETTERS];
        final int[] to = new int[MAX_LETTERS];
        final int[] value = new int[MAX_LETTERS];
        /** IN_OFFICE, IN_SACK, IN_HAND or LOST. */
        final int[] kind = new int[MAX_LETTERS];
        final int[] where = new int[MAX_LETTERS];
        final int[] posted = new int[MAX_LETTERS];
        final int[] promised = new int[MAX_LETTERS];
        final int[] handSince = new int[MAX_LETTERS];
        final int[] claimed = new int[MAX_LETTERS];
        final int[] trace = new int[MAX_LETTERS];

        Letters() {
        }

        void copyFrom(Letters other) {
            size = other.size;
            System.arraycopy(other.from, 0, from, 0, MAX_LETTERS);
            System.arraycopy(other.to, 0, to, 0, MAX_LETTERS);
            System.arraycopy(other.value, 0, value, 0, MAX_LETTERS);
            System.arraycopy(other.kind, 0, kind, 0, MAX_LETTERS);
            System.arraycopy(other.where, 0, where, 0, MAX_LETTERS);
            System.arraycopy(other.posted, 0, posted, 0, MAX_LETTERS);
            System.arraycopy(other.promised, 0, promised, 0, MAX_LETTERS);
            System.arraycopy(other.handSince, 0, handSince, 0, MAX_LETTERS);
            System.arraycopy(other.claimed, 0, claimed, 0, MAX_LETTERS);
            System.arraycopy(other.trace, 0, trace, 0, MAX_LETTERS);
        }

        int add(int fromVillage, int toVillage, int itsValue, int hour, int promisedHour) {
            if (size >= MAX_LETTERS) {
                return NONE;
            }
            int number = size;
            from[number] = fromVillage;
            to[number] = toVillage;
            value[number] = itsValue;
            kind[number] = IN_OFFICE;
            where[number] = fromVillage;
            posted[number] = hour;
            promised[number] = promisedHour;
            handSince[number] = NONE;
            claimed[number] = 0;
            trace[number] = 0;
            size++;
            return number;
        }

        int property(int i, int what) {
            if (i < 0 || i >= size) {
                return NONE;
            }
            switch (what) {
                case 0:
                    return from[i];
                case 1:
                    return to[i];
                case 2:
                    return value[i];
                case 3:
                    return kind[i];
                case 4:
                    return where[i];
                case 5:
                    return posted[i];
                case 6:
                    return promised[i];
                case 7:
                    return handSince[i];
                default:
                    return claimed[i];
            }
        }

        boolean lateAt(int i, int time) {
            if (i < 0 || i >= size || promised[i] == NONE) {
                return false;
            }
            return (kind[i] == IN_HAND ? handSince[i] : time) > promised[i];
        }

        boolean isIn(int i, int itsKind, int itsPlace) {
            return i >= 0 && i < size && kind[i] == itsKind && where[i] == itsPlace;
        }

        int countIn(int itsKind, int itsPlace) {
            int count = 0;
            for (int i = 0; i < size; i++) {
                if (isIn(i, itsKind, itsPlace)) {
                    count++;
                }
            }
            return count;
        }

        int numberIn(int itsKind, int itsPlace, int k) {
            int before = 0;
            for (int i = 0; i < size; i++) {
                if (isIn(i, itsKind, itsPlace)) {
                    if (before == k) {
                        return i;
                    }
                    before++;
                }
            }
            return NONE;
        }

        int valueIn(int itsKind, int itsPlace) {
            int sum = 0;
            for (int i = 0; i < size; i++) {
                if (isIn(i, itsKind, itsPlace)) {
                    sum += value[i];
                }
            }
            return sum;
        }

        void toHand(int i, int hour) {
            if (i >= 0 && i < size) {
                kind[i] = IN_HAND;
                where[i] = to[i];
                handSince[i] = hour;
            }
        }

        void toOffice(int i, int village) {
            if (i >= 0 && i < size) {
                kind[i] = IN_OFFICE;
                where[i] = village;
            }
        }

        void toSack(int i, int sack, int carrier) {
            if (i >= 0 && i < size) {
                kind[i] = IN_SACK;
                where[i] = sack;
                trace[i] |= bit(carrier);
            }
        }
    }

    /** The latest receipts, in a ring. */
    static final class Receipts {
        static final int PARTS = 5;
        static final int LETTER = 1;
        int kept = 0;
        private int next = 0;
        private final int[] ring = new int[MAX_RECEIPTS * PARTS];

        Receipts() {
        }

        void clear() {
            kept = 0;
            next = 0;
        }

        void copyFrom(Receipts other) {
            kept = other.kept;
            next = other.next;
            System.arraycopy(other.ring, 0, ring, 0, MAX_RECEIPTS * PARTS);
        }

        void write(int hour, int letter, int kind, int carrier, int place) {
            if (next < 0 || next >= MAX_RECEIPTS) {
                return;
            }
            int at = next * PARTS;
            ring[at] = hour;
            ring[at + LETTER] = letter;
            ring[at + 2] = kind;
            ring[at + 3] = carrier;
            ring[at + 4] = place;
            next = next + 1 < MAX_RECEIPTS ? next + 1 : 0;
            kept = Math.min(kept + 1, MAX_RECEIPTS);
        }

        int part(int ago, int what) {
            if (ago < 0 || ago >= kept || what < 0 || what >= PARTS) {
                return NONE;
            }
            return ring[Math.floorMod(next - 1 - ago, MAX_RECEIPTS) * PARTS + what];
        }
    }

    /** The lost sacks, the earliest one first; each holds a letter, so there are no more of them. */
    static final class LostSacks {
        int size = 0;
        private final int[] carriers = new int[MAX_LETTERS];
        private final int[] hours = new int[MAX_LETTERS];

        LostSacks() {
        }

        void copyFrom(LostSacks other) {
            size = other.size;
            System.arraycopy(other.carriers, 0, carriers, 0, MAX_LETTERS);
            System.arraycopy(other.hours, 0, hours, 0, MAX_LETTERS);
        }

        int add(int carrier, int hour) {
            if (size >= MAX_LETTERS) {
                return NONE;
            }
            carriers[size] = carrier;
            hours[size] = hour;
            size++;
            return size - 1;
        }

        void removeAt(int lost) {
            if (lost < 0 || lost >= size) {
                return;
            }
            for (int i = lost + 1; i < size; i++) {
                carriers[i - 1] = carriers[i];
                hours[i - 1] = hours[i];
            }
            size--;
        }

        int carrierOfLost(int lost) {
            return lost < 0 || lost >= size ? NONE : carriers[lost];
        }

        int hourOfLost(int lost) {
            return lost < 0 || lost >= size ? NONE : hours[lost];
        }
    }

    /** All that an action can change, and that undo restores. */
    static final class State {
        int time = 0;
        int capacity = USUAL_CAPACITY;
        int swaps = 0;
        /** The set of the carriers on strike. */
        int striking = 0;
        /** The sack of each carrier. */
        private final int[] sacks = new int[MAX_CARRIERS];
        final Letters letters = new Letters();
        final Receipts receipts = new Receipts();
        final LostSacks lostSacks = new LostSacks();

        State() {
        }

        void clear() {
            time = 0;
            capacity = USUAL_CAPACITY;
            swaps = 0;
            striking = 0;
            for (int carrier = 0; carrier < MAX_CARRIERS; carrier++) {
                sacks[carrier] = carrier;
            }
            letters.size = 0;
            receipts.clear();
            lostSacks.size = 0;
        }

        void copyFrom(State other) {
            time = other.time;
            capacity = other.capacity;
            swaps = other.swaps;
            striking = other.striking;
            System.arraycopy(other.sacks, 0, sacks, 0, MAX_CARRIERS);
            letters.copyFrom(other.letters);
            receipts.copyFrom(other.receipts);
            lostSacks.copyFrom(other.lostSacks);
        }

        int sackWith(int carrier) {
            return carrier < 0 || carrier >= MAX_CARRIERS ? NONE : sacks[carrier];
        }

        int carrierWith(int sack) {
            for (int carrier = 0; carrier < MAX_CARRIERS; carrier++) {
                if (sacks[carrier] == sack) {
                    return carrier;
                }
            }
            return NONE;
        }

        /** The carrier in whose sack the letter is; NONE if it is in none. */
        int holderOf(int i) {
            if (i < 0 || i >= letters.size || letters.kind[i] != IN_SACK) {
                return NONE;
            }
            return carrierWith(letters.where[i]);
        }

        /** Each carrier of the group gets the sack of the next one, the last one that of the first. */
        void rotateSacks(int group) {
            int firstSack = NONE;
            int before = NONE;
            for (int carrier = 0; carrier < MAX_CARRIERS; carrier++) {
                if (has(group, carrier)) {
                    if (before < 0) {
                        firstSack = sacks[carrier];
                    } else {
                        sacks[before] = sacks[carrier];
                    }
                    before = carrier;
                }
            }
            if (before >= 0) {
                sacks[before] = firstSack;
            }
        }

        /** Only insured letters have receipts. */
        void writeReceipt(int i, int kind, int carrier, int place) {
            if (i >= 0 && i < letters.size && letters.value[i] != 0) {
                receipts.write(time, i, kind, carrier, place);
            }
        }

        int loseSack(int carrier) {
            int sack = sackWith(carrier);
            int number = letters.countIn(IN_SACK, sack);
            if (number == 0) {
                return 0;
            }
            int lost = lostSacks.add(carrier, time);
            for (int i = 0; i < letters.size; i++) {
                if (letters.isIn(i, IN_SACK, sack)) {
                    letters.kind[i] = LOST;
                    letters.where[i] = lost;
                    writeReceipt(i, SACK_LOST, carrier, NONE);
                }
            }
            return number;
        }

        int findSack(int lost, int village) {
            int number = 0;
            for (int i = 0; i < letters.size; i++) {
                if (letters.kind[i] == LOST && letters.where[i] > lost) {
                    letters.where[i]--;
                } else if (letters.isIn(i, LOST, lost)) {
                    number++;
                    comeBack(i, village);
                }
            }
            lostSacks.removeAt(lost);
            return number;
        }

        private void comeBack(int i, int village) {
            if (i >= 0 && i < letters.size && letters.to[i] == village) {
                letters.toHand(i, time);
            } else {
                letters.toOffice(i, village);
            }
            writeReceipt(i, SACK_FOUND, NONE, village);
        }
    }

    /** The states before the latest actions, in a ring. */
    static final class History {
        int depth = 0;
        private int next = 0;
        private final State[] ring = new State[MAX_UNDO];

        History() {
            for (int i = 0; i < MAX_UNDO; i++) {
                ring[i] = new State();
            }
        }

        void forget() {
            depth = 0;
        }

        void keep(State state) {
            State slot = slotAt(next);
            if (slot != null) {
                slot.copyFrom(state);
                next = next + 1 < MAX_UNDO ? next + 1 : 0;
                depth = Math.min(depth + 1, MAX_UNDO);
            }
        }

        boolean restore(State state) {
            int latest = next > 0 ? next - 1 : MAX_UNDO - 1;
            State slot = slotAt(latest);
            if (depth <= 0 || slot == null) {
                return false;
            }
            state.copyFrom(slot);
            next = latest;
            depth--;
            return true;
        }

        private State slotAt(int index) {
            return index < 0 || index >= MAX_UNDO ? null : ring[index];
        }
    }

    /** How a letter could spread over sacks and offices if there were no capacities. */
    static final class Spread {
        /** The set of the villages whose office it can be in. */
        int offices = 0;
        /** The set of the carriers whose sack it can be in: so a swap moves bits, and no sacks. */
        private int carriers = 0;
        private final int[] arrivals = new int[MAX_PLACES];

        Spread() {
        }

        void begin(int firstOffices, int firstCarriers) {
            offices = firstOffices;
            carriers = firstCarriers;
            for (int place = 0; place < MAX_PLACES; place++) {
                arrivals[place] = NONE;
            }
        }

        /** Looks at the hours from this one on, until all the wanted villages are reached. */
        void follow(Timetable table, int working, int hour, int hours, int wanted) {
            for (int step = 0; step < hours && (offices & wanted) != wanted; step++) {
                int places = table.placesAt(hour + step);
                if (places != 0) {
                    lookAt(table, working, hour + step, places);
                }
            }
        }

        /** A carrier is at one place in an hour, so the places can be looked at one by one. */
        private void lookAt(Timetable table, int working, int hour, int places) {
            for (int place = 0; place < MAX_PLACES; place++) {
                int group = has(places, place) ? table.carriersStopping(hour, place) & working : 0;
                if (group == 0) {
                    continue;
                }
                if (!table.hasOffice(place)) {
                    carriers = swapped(carriers, group);
                } else if (has(offices, place) || (carriers & group) != 0) {
                    if (!has(offices, place)) {
                        arrivals[place] = hour;
                    }
                    offices |= bit(place);
                    carriers |= group;
                }
            }
        }

        private static int swapped(int set, int group) {
            int first = NONE;
            int before = NONE;
            int after = set & ~group;
            for (int carrier = 0; carrier < MAX_CARRIERS; carrier++) {
                if (has(group, carrier)) {
                    if (before == NONE) {
                        first = carrier;
                    } else if (has(set, carrier)) {
                        after |= bit(before);
                    }
                    before = carrier;
                }
            }
            return has(set, first) ? after | bit(before) : after;
        }

        /** The first hour in which the place came into the set of offices. */
        int arrivalAt(int place) {
            return place < 0 || place >= MAX_PLACES ? NONE : arrivals[place];
        }
    }

    /** Processes hours: the swaps at crossings first, then the villages. */
    static final class HourWork {
        private static final int ELSEWHERE = -2;
        private static final int WAITING = MAX_CARRIERS;
        private final Spread spread = new Spread();
        /** For each carrier's sack, and for WAITING, the arrivals at all places. */
        private final int[] arrivals = new int[(MAX_CARRIERS + 1) * MAX_PLACES];
        /** The carrier from whose sack a letter was taken, NONE for the office, or ELSEWHERE. */
        private final int[] origins = new int[MAX_LETTERS];
        /** How many letters each carrier's sack has so far. */
        private final int[] loads = new int[MAX_CARRIERS];

        HourWork() {
        }

        /** Returns the number of letters that came into hands. */
        int processHour(Timetable table, State state) {
            for (int place = 0; place < table.placeCount; place++) {
                int group = table.carriersStopping(state.time, place) & ~state.striking;
                if (!table.hasOffice(place) && Integer.bitCount(group) >= 2) {
                    swapSacks(state, place, group);
                }
            }
            int arrived = 0;
            for (int place = 0; place < table.placeCount; place++) {
                int group = table.carriersStopping(state.time, place) & ~state.striking;
                if (table.hasOffice(place) && group != 0) {
                    arrived += takeOut(state, place, group);
                    int wanted = wantedVillages(state);
                    if (wanted != 0) {
                        foresee(table, state, place, group, wanted);
                        putAllAway(state, place, group);
                    }
                }
            }
            state.time++;
            return arrived;
        }

        private void swapSacks(State state, int place, int group) {
            state.rotateSacks(group);
            state.swaps++;
            Letters letters = state.letters;
            for (int i = 0; i < letters.size; i++) {
                int holder = state.holderOf(i);
                if (has(group, holder)) {
                    letters.trace[i] |= bit(holder);
                    state.writeReceipt(i, SACK_SWAPPED, holder, place);
                }
            }
        }

        /** Hands out what goes to this village, and notes where all other letters here come from. */
        private int takeOut(State state, int place, int group) {
            Letters letters = state.letters;
            int arrived = 0;
            for (int i = 0; i < letters.size && i < MAX_LETTERS; i++) {
                int holder = state.holderOf(i);
                origins[i] = ELSEWHERE;
                if (letters.isIn(i, IN_OFFICE, place)) {
                    origins[i] = NONE;
                } else if (has(group, holder) && letters.to[i] != place) {
                    origins[i] = holder;
                } else if (has(group, holder)) {
                    letters.toHand(i, state.time);
                    state.writeReceipt(i, INTO_HAND, holder, place);
                    arrived++;
                }
            }
            return arrived;
        }

        /** The set of the villages to which the letters go that are not handed out here. */
        private int wantedVillages(State state) {
            Letters letters = state.letters;
            int wanted = 0;
            for (int i = 0; i < letters.size && i < MAX_LETTERS; i++) {
                if (origins[i] != ELSEWHERE) {
                    wanted |= bit(letters.to[i]);
                }
            }
            return wanted;
        }

        /** Finds the arrivals by each sack here and by waiting, and empties the sacks. */
        private void foresee(Timetable table, State state, int place, int group, int wanted) {
            for (int carrier = 0; carrier < MAX_CARRIERS; carrier++) {
                loads[carrier] = 0;
                if (has(group, carrier)) {
                    spread.begin(0, bit(carrier));
                    spread.follow(table, ~state.striking, state.time + 1, HOURS_LOOKED_AT, wanted);
                    noteArrivals(carrier);
                }
            }
            spread.begin(bit(place), 0);
            spread.follow(table, ~state.striking, state.time + 1, HOURS_LOOKED_AT, wanted);
            noteArrivals(WAITING);
        }

        private void noteArrivals(int way) {
            if (way >= 0 && way <= WAITING) {
                for (int place = 0; place < MAX_PLACES; place++) {
                    arrivals[way * MAX_PLACES + place] = spread.arrivalAt(place);
                }
            }
        }

        private int arrivalBy(int way, int place) {
            if (way < 0 || way > WAITING || place < 0 || place >= MAX_PLACES) {
                return NONE;
            }
            return arrivals[way * MAX_PLACES + place];
        }

        private void putAllAway(State state, int place, int group) {
            Letters letters = state.letters;
            for (int i = 0; i < letters.size && i < MAX_LETTERS; i++) {
                if (origins[i] != ELSEWHERE) {
                    putAway(state, i, place, chooseCarrier(state, group, letters.to[i]));
                }
            }
        }

        /** The carrier whose sack a letter to this village takes; NONE if it is in the office. */
        private int chooseCarrier(State state, int group, int to) {
            int best = NONE;
            int bestArrival = NONE;
            for (int carrier = 0; carrier < MAX_CARRIERS; carrier++) {
                int arrival = arrivalBy(carrier, to);
                if (!has(group, carrier) || loads[carrier] >= state.capacity || arrival == NONE) {
                    continue;
                }
                if (best == NONE || arrival < bestArrival
                        || arrival == bestArrival && state.sackWith(carrier) < state.sackWith(best)) {
                    best = carrier;
                    bestArrival = arrival;
                }
            }
            int waiting = arrivalBy(WAITING, to);
            return waiting != NONE && bestArrival > waiting ? NONE : best;
        }

        private void putAway(State state, int i, int place, int carrier) {
            if (i < 0 || i >= MAX_LETTERS) {
                return;
            }
            int origin = origins[i];
            if (carrier >= 0 && carrier < MAX_CARRIERS) {
                loads[carrier]++;
                state.letters.toSack(i, state.sackWith(carrier), carrier);
                if (origin != carrier) {
                    state.writeReceipt(i, INTO_SACK, carrier, place);
                }
            } else {
                state.letters.toOffice(i, place);
                if (origin != NONE) {
                    state.writeReceipt(i, INTO_OFFICE, origin, place);
                }
            }
        }
    }

    /** Reads a text into a timetable and a state of its own. */
    static final class Parser {
        private static final int BITS_A_LETTER = 5;
        final Timetable table = new Timetable();
        final State state = new State();
        /** The error; NONE and 0 if there is none. */
        int offset = NONE;
        int kind = 0;
        private int[] text = new int[0];
        private int end = 0;
        private int at = 0;
        /** The first byte of the latest word or number. */
        private int start = 0;
        /** The weekdays of the latest route. */
        private int days = 0;

        Parser() {
        }

        /** A name as a number, not 0, five bits a letter; 0 if these bytes are not a name. */
        static int nameIn(int[] bytes, int from, int to) {
            if (bytes == null || from < 0 || to > bytes.length || to - from < 1 || to - from > MAX_NAME) {
                return 0;
            }
            int name = 0;
            for (int i = from; i < to; i++) {
                if (bytes[i] < 'a' || bytes[i] > 'z') {
                    return 0;
                }
                name = (name << BITS_A_LETTER) | (bytes[i] - 'a' + 1);
            }
            return name;
        }

        boolean parse(int[] bytes, int length) {
            begin(bytes, length);
            // A line takes at least one byte, so there are no more lines than bytes.
            for (int lines = 0; lines <= end; lines++) {
                boolean correct;
                readWord();
                if (start >= end) {
                    return true;
                } else if (isWord("village")) {
                    correct = readPlace(true);
                } else if (isWord("crossing")) {
                    correct = readPlace(false);
                } else if (isWord("carrier")) {
                    correct = readCarrier();
                } else if (isWord("route")) {
                    correct = readDays() && readStops();
                } else if (isWord("capacity")) {
                    correct = readCapacity();
                } else if (isWord("letter")) {
                    correct = readLetter();
                } else {
                    correct = fail(SYNTAX, start);
                }
                if (!correct || !readSemicolon()) {
                    return false;
                }
            }
            return true;
        }

        private void begin(int[] bytes, int length) {
            table.clear();
            state.clear();
            offset = NONE;
            kind = 0;
            if (bytes != null) {
                text = bytes;
            }
            end = Math.max(0, Math.min(length, text.length));
            at = 0;
        }

        private boolean fail(int itsKind, int itsOffset) {
            kind = itsKind;
            offset = itsOffset;
            return false;
        }

        private boolean readPlace(boolean village) {
            if (table.placeCount >= MAX_PLACES) {
                return fail(TOO_MANY, start);
            }
            int name = readName();
            if (name == 0) {
                return fail(SYNTAX, start);
            }
            if (table.placeOfName(name) != NONE) {
                return fail(BAD_NAME, start);
            }
            table.addPlace(name, village);
            return true;
        }

        private boolean readCarrier() {
            if (table.carrierCount >= MAX_CARRIERS) {
                return fail(TOO_MANY, start);
            }
            int name = readName();
            if (name == 0) {
                return fail(SYNTAX, start);
            }
            if (table.hasCarrierNamed(name)) {
                return fail(BAD_NAME, start);
            }
            table.addCarrier(name);
            return true;
        }

        private boolean readDays() {
            if (table.carrierCount == 0) {
                return fail(SYNTAX, start);
            }
            days = readNumber(1, 127);
            if (days == NONE) {
                return false;
            }
            if ((days & table.daysOfLastCarrier()) != 0) {
                return fail(BAD_NUMBER, start);
            }
            table.addRouteDays(days);
            return true;
        }

        private boolean readStops() {
            int hour = NONE;
            for (int stops = 0; stops <= MAX_STOPS; stops++) {
                skipBlanks();
                if (stops > 0 && !isDigit(at)) {
                    return true;
                }
                if (stops == MAX_STOPS) {
                    return fail(TOO_MANY, at);
                }
                hour = readNumber(hour + 1, DAY - 1);
                if (hour == NONE) {
                    return false;
                }
                int name = readName();
                if (name == 0) {
                    return fail(SYNTAX, start);
                }
                int place = table.placeOfName(name);
                if (place == NONE) {
                    return fail(BAD_NAME, start);
                }
                table.addStop(days, hour, place);
            }
            return true;
        }

        private boolean readCapacity() {
            int capacity = readNumber(1, MAX_CAPACITY);
            if (capacity == NONE) {
                return false;
            }
            state.capacity = capacity;
            return true;
        }

        private boolean readLetter() {
            if (state.letters.size >= MAX_LETTERS) {
                return fail(TOO_MANY, start);
            }
            int from = readVillage(NONE);
            if (from == NONE) {
                return false;
            }
            int to = readVillage(from);
            if (to == NONE) {
                return false;
            }
            skipBlanks();
            int value = 0;
            if (isLowerCase(at)) {
                readWord();
                if (!isWord("insured")) {
                    return fail(SYNTAX, start);
                }
                value = readNumber(1, MAX_VALUE);
                if (value == NONE) {
                    return false;
                }
            }
            state.letters.add(from, to, value, 0, NONE);
            return true;
        }

        /** The village with the name that comes next, which is not this other one. */
        private int readVillage(int other) {
            int name = readName();
            if (name == 0) {
                fail(SYNTAX, start);
                return NONE;
            }
            int place = table.placeOfName(name);
            if (!table.hasOffice(place) || place == other) {
                fail(BAD_NAME, start);
                return NONE;
            }
            return place;
        }

        private boolean readSemicolon() {
            skipBlanks();
            if (byteAt(at) != ';') {
                return fail(SYNTAX, at);
            }
            at++;
            return true;
        }

        private int readName() {
            readWord();
            return nameIn(text, start, at);
        }

        /** Reads a word of any length, also of none. */
        private void readWord() {
            skipBlanks();
            start = at;
            while (at < end && isLowerCase(at)) {
                at++;
            }
        }

        /** NONE, with the error set, if there is no such number. */
        private int readNumber(int least, int most) {
            skipBlanks();
            start = at;
            int number = 0;
            while (at < end && isDigit(at)) {
                if (at - start < MAX_DIGITS) {
                    number = 10 * number + byteAt(at) - '0';
                }
                at++;
            }
            if (at == start) {
                fail(SYNTAX, start);
                return NONE;
            }
            if (at - start > MAX_DIGITS || number < least || number > most) {
                fail(BAD_NUMBER, start);
                return NONE;
            }
            return number;
        }

        private void skipBlanks() {
            while (at < end && isBlank(byteAt(at))) {
                at++;
            }
        }

        private static boolean isBlank(int sign) {
            return sign == ' ' || sign == '\t' || sign == '\n';
        }

        /** Whether the latest word is this keyword. */
        private boolean isWord(String keyword) {
            if (at - start != keyword.length()) {
                return false;
            }
            for (int i = 0; i < keyword.length(); i++) {
                if (byteAt(start + i) != keyword.charAt(i)) {
                    return false;
                }
            }
            return true;
        }

        private boolean isDigit(int index) {
            return byteAt(index) >= '0' && byteAt(index) <= '9';
        }

        private boolean isLowerCase(int index) {
            return byteAt(index) >= 'a' && byteAt(index) <= 'z';
        }

        /** NONE behind the end of the text. */
        private int byteAt(int index) {
            return index < 0 || index >= end || index >= text.length ? NONE : text[index];
        }
    }

    /** The formatted text. */
    static final class Line {
        int length = 0;
        private final int[] signs = new int[MAX_LINE];

        Line() {
        }

        void put(int sign) {
            if (length >= 0 && length < MAX_LINE) {
                signs[length] = sign;
                length++;
            }
        }

        void putText(String text) {
            for (int i = 0; i < text.length(); i++) {
                put(text.charAt(i));
            }
        }

        void putName(int name) {
            for (int i = MAX_NAME - 1; i >= 0; i--) {
                int sign = (name >> (i * Parser.BITS_A_LETTER)) & 31;
                if (sign != 0) {
                    put('a' + sign - 1);
                }
            }
        }

        /** Numbers of sacks and letters have at most two digits. */
        void putNumber(int number) {
            if (number >= 10) {
                put('0' + number / 10);
            }
            put('0' + number % 10);
        }

        int signAt(int index) {
            return index < 0 || index >= length || index >= MAX_LINE ? NONE : signs[index];
        }
    }
}
