import java.util.NoSuchElementException;

/**
 * Sorting from a small boat: parcels are loaded one by one, the boat throws them overboard in
 * rising runs, storms break runs, runs are merged by weight, and rising runs are brought ashore.
 */
public final class BoatRuns {
    public static final int NONE = -1;

    private static final int MOST_PARCELS = 120;
    private static final int MOST_KEY = 999;
    private static final int MOST_WEIGHT = 50;
    private static final int FIRST_ROOM = 4;
    private static final int MOST_ROOM = 12;
    private static final int MOST_TRIAL_ROOM = 120;
    private static final int MOST_SEED = 999999;
    private static final int MOST_DRAWN = 60;
    private static final int MOST_RANGE = 1000;
    private static final int MOST_FORCE = 9;
    private static final int FIRST_STRENGTH = 5;
    private static final int MOST_STRENGTH = 9;
    private static final int PARCEL_FACTS = 5;
    private static final int RUN_FACTS = 6;
    private static final int NUMBERS = 12;
    private static final int MOST_SAVED = 4;
    private static final int MOST_BYTES = 100;
    private static final int MOST_BYTE = 127;
    private static final int SYNTAX_ERROR = -10;

    private final Boat boat;
    /** What-if questions are played through here, so that the boat itself stays as it is. */
    private final Boat trial;
    private final History history;
    private final Text text;

    public BoatRuns() {
        boat = new Boat();
        trial = new Boat();
        history = new History();
        text = new Text();
    }

    // ---- boat

    public int begin(int room) throws IllegalArgumentException {
        if (room < 1 || room > MOST_ROOM) {
            throw new IllegalArgumentException("room is out of range");
        }
        history.save(boat);
        int before = boat.loaded();
        boat.startAgain(room);
        return before;
    }

    public int load(int key, int weight) throws IllegalArgumentException, IllegalStateException {
        if (key < 0 || key > MOST_KEY || weight < 1 || weight > MOST_WEIGHT) {
            throw new IllegalArgumentException("key or weight is out of range");
        }
        if (boat.allLoaded()) {
            throw new IllegalStateException("no more parcels can be loaded");
        }
        history.save(boat);
        return boat.take(key, weight);
    }

    public int loadDrawn(int seed, int parcels, int range) throws IllegalArgumentException {
        if (seed < 0 || seed > MOST_SEED || parcels < 1 || parcels > MOST_DRAWN
                || range < 1 || range > MOST_RANGE) {
            throw new IllegalArgumentException("an argument is out of range");
        }
        history.save(boat);
        return boat.takeDrawn(seed, parcels, range);
    }

    public int empty() {
        history.save(boat);
        return boat.throwAll();
    }

    public int merge(int first, int second) throws NoSuchElementException, IllegalArgumentException {
        if (!boat.hasRun(first) || !boat.hasRun(second)) {
            throw new NoSuchElementException("there is no such run");
        }
        if (first == second) {
            throw new IllegalArgumentException("both runs are the same");
        }
        history.save(boat);
        return boat.join(first, second);
    }

    public int mergeLightest() throws IllegalStateException {
        if (boat.runs() < 2) {
            throw new IllegalStateException("there are fewer than two runs");
        }
        history.save(boat);
        return boat.joinLightest();
    }

    public int storm(int force) throws IllegalArgumentException {
        if (force < 1 || force > MOST_FORCE) {
            throw new IllegalArgumentException("force is out of range");
        }
        history.save(boat);
        return boat.breakRuns(force);
    }

    public int tighten(int run) throws NoSuchElementException {
        if (!boat.hasRun(run)) {
            throw new NoSuchElementException("there is no such run");
        }
        history.save(boat);
        return boat.strengthen(run);
    }

    public int land(int run) throws NoSuchElementException, IllegalStateException {
        if (!boat.hasRun(run)) {
            throw new NoSuchElementException("there is no such run");
        }
        if (!boat.canBringAshore(run)) {
            throw new IllegalStateException("the run cannot be brought ashore");
        }
        history.save(boat);
        return boat.bringAshore(run);
    }

    // ---- values

    public int parcel(int parcel, int what) throws IndexOutOfBoundsException, IllegalArgumentException {
        if (parcel < 0 || parcel >= boat.loaded()) {
            throw new IndexOutOfBoundsException("no such parcel was loaded");
        }
        if (what < 0 || what >= PARCEL_FACTS) {
            throw new IllegalArgumentException("what is out of range");
        }
        return boat.parcelFact(parcel, what);
    }

    public int run(int run, int what) throws NoSuchElementException, IllegalArgumentException {
        if (!boat.hasRun(run)) {
            throw new NoSuchElementException("there is no such run");
        }
        if (what < 0 || what >= RUN_FACTS) {
            throw new IllegalArgumentException("what is out of range");
        }
        return boat.runFact(run, what);
    }

    public int inRun(int run, int place) throws NoSuchElementException, IndexOutOfBoundsException {
        if (!boat.hasRun(run)) {
            throw new NoSuchElementException("there is no such run");
        }
        if (place < 0 || place >= boat.countAt(run)) {
            throw new IndexOutOfBoundsException("the run has not so many parcels");
        }
        return boat.parcelAt(run, place);
    }

    public int ashore(int place) throws IndexOutOfBoundsException {
        if (place < 0 || place >= boat.countAt(Boat.ON_LAND)) {
            throw new IndexOutOfBoundsException("there are not so many parcels ashore");
        }
        return boat.parcelAt(Boat.ON_LAND, place);
    }

    public int runAt(int index) throws IndexOutOfBoundsException {
        if (index < 0 || index >= boat.runs()) {
            throw new IndexOutOfBoundsException("there are not so many runs");
        }
        return boat.runNumber(index);
    }

    public int value(int what) throws IllegalArgumentException {
        if (what < 0 || what >= NUMBERS) {
            throw new IllegalArgumentException("what is out of range");
        }
        return boat.number(what);
    }

    // ---- what if

    public int nextThrown() {
        return boat.nextOverboard();
    }

    public int runsIfEmptied() {
        trial.copy(boat);
        return trial.throwAll();
    }

    public int costByWeight() {
        trial.copy(boat);
        return trial.joinAllByWeight();
    }

    public int costByNumber() {
        trial.copy(boat);
        return trial.joinAllByNumber();
    }

    public int runsWith(int room) throws IllegalArgumentException {
        if (room < 1 || room > MOST_TRIAL_ROOM) {
            throw new IllegalArgumentException("room is out of range");
        }
        trial.startAgain(room);
        for (int parcel = 0; parcel < boat.loaded(); parcel++) {
            trial.take(boat.keyOf(parcel), boat.weightOf(parcel));
        }
        return trial.throwAll();
    }

    /**
     * As long as there is one run, the boat keeps the greatest parcels that came so far. A parcel
     * fits into this run if none of the earlier parcels that are greater than it is overboard when
     * it comes in, which is so if there is room for all of them and for itself.
     */
    public int leastRoom() {
        int most = 0;
        for (int parcel = 0; parcel < boat.loaded(); parcel++) {
            most = Math.max(most, boat.earlierGreater(parcel));
        }
        return most + 1;
    }

    public int inversions() {
        int pairs = 0;
        for (int parcel = 0; parcel < boat.loaded(); parcel++) {
            pairs += boat.earlierGreater(parcel);
        }
        return pairs;
    }

    // ---- text

    public int append(int value) throws IllegalArgumentException, IllegalStateException {
        if (value < 0 || value > MOST_BYTE) {
            throw new IllegalArgumentException("value is out of range");
        }
        if (text.length() >= MOST_BYTES) {
            throw new IllegalStateException("the text is full");
        }
        return text.write(value);
    }

    public int clearText() {
        return text.wipe();
    }

    public int carryOut() {
        int error = text.readOrders();
        if (error != NONE) {
            return SYNTAX_ERROR - error;
        }
        history.save(boat);
        int done = 0;
        while (done < text.orders() && obey(text.kind(done), text.first(done), text.second(done))) {
            done++;
        }
        return done;
    }

    /** Carries out one order, if the call that it stands for would not throw. */
    private boolean obey(int kind, int first, int second) {
        switch (kind) {
            case 'p':
                if (boat.allLoaded()) {
                    return false;
                }
                boat.take(first, second);
                return true;
            case 'e':
                boat.throwAll();
                return true;
            case 'l':
                if (boat.runs() < 2) {
                    return false;
                }
                boat.joinLightest();
                return true;
            case 's':
                boat.breakRuns(first);
                return true;
            case 'm':
                if (first == second || !boat.hasRun(first) || !boat.hasRun(second)) {
                    return false;
                }
                boat.join(first, second);
                return true;
            default:
                return false;
        }
    }

    // ---- state

    public int undo() throws IllegalStateException {
        if (history.count() == 0) {
            throw new IllegalStateException("there is no saved state");
        }
        history.restore(boat);
        return history.count();
    }

    public long digest() {
        long hash = mixed(3691, text.length());
        for (int what = 0; what < NUMBERS; what++) {
            hash = mixed(hash, boat.number(what));
        }
        for (int parcel = 0; parcel < boat.loaded(); parcel++) {
            for (int what = 0; what < PARCEL_FACTS; what++) {
                hash = mixed(hash, boat.parcelFact(parcel, what));
            }
        }
        for (int index = 0; index < boat.runs(); index++) {
            int number = boat.runNumber(index);
            hash = mixed(hash, number);
            for (int what = 0; what < RUN_FACTS; what++) {
                hash = mixed(hash, boat.runFact(number, what));
            }
        }
        hash = mixed(hash, nextThrown());
        hash = mixed(hash, costByWeight());
        return mixed(hash, history.count());
    }

    private static long mixed(long hash, int next) {
        return 31 * hash + next;
    }

    /**
     * A row of numbers with a fixed capacity. The only arrays of numbers stand here, so that every
     * index is tested in one place; the size never passes the length of the array.
     */
    private static final class Row {
        private final int[] cells;
        private int size;

        Row(int capacity) {
            cells = new int[Math.max(capacity, 0)];
        }

        int size() {
            return size;
        }

        void clear() {
            size = 0;
        }

        int get(int index) {
            return index >= 0 && index < size ? cells[index] : NONE;
        }

        void set(int index, int value) {
            if (index >= 0 && index < size) {
                cells[index] = value;
            }
        }

        void increase(int index, int difference) {
            set(index, get(index) + difference);
        }

        void add(int value) {
            insert(size, value);
        }

        void insert(int index, int value) {
            if (index < 0 || index > size || size >= cells.length) {
                return;
            }
            for (int i = size; i > index; i--) {
                cells[i] = cells[i - 1];
            }
            cells[index] = value;
            size++;
        }

        void remove(int index) {
            if (index < 0 || index >= size) {
                return;
            }
            for (int i = index; i < size - 1; i++) {
                cells[i] = cells[i + 1];
            }
            size--;
        }

        int indexOf(int value) {
            for (int i = 0; i < size; i++) {
                if (cells[i] == value) {
                    return i;
                }
            }
            return NONE;
        }

        void copy(Row other) {
            size = Math.min(other.size, cells.length);
            for (int i = 0; i < size; i++) {
                cells[i] = other.cells[i];
            }
        }
    }

    /**
     * A boat with its parcels, runs and counts. A parcel knows only its home; as runs and the row
     * ashore always rise, their order is the order of all parcels, and is not kept a second time.
     * Its methods expect arguments that the face has tested.
     */
    private static final class Boat {
        /** Homes of parcels that are in no run; the home of the others is the number of the run. */
        static final int ABOARD = -1;
        static final int ON_LAND = -2;

        private int room;
        // By the number of the parcel:
        private final Row keys;
        private final Row weights;
        private final Row homes;
        /** All parcels, each less than the next one. */
        private final Row order;
        // By the index of the run, whose numbers rise:
        private final Row floats;
        private final Row strengths;
        private final Row runWeights;
        private int open;
        private int floatsUsed;
        private int costs;
        private int merges;
        private int storms;
        private int broken;

        Boat() {
            room = FIRST_ROOM;
            open = NONE;
            keys = new Row(MOST_PARCELS);
            weights = new Row(MOST_PARCELS);
            homes = new Row(MOST_PARCELS);
            order = new Row(MOST_PARCELS);
            floats = new Row(MOST_PARCELS);
            strengths = new Row(MOST_PARCELS);
            runWeights = new Row(MOST_PARCELS);
        }

        void startAgain(int newRoom) {
            room = newRoom;
            keys.clear();
            weights.clear();
            homes.clear();
            order.clear();
            floats.clear();
            strengths.clear();
            runWeights.clear();
            open = NONE;
            floatsUsed = 0;
            costs = 0;
            merges = 0;
            storms = 0;
            broken = 0;
        }

        void copy(Boat other) {
            room = other.room;
            keys.copy(other.keys);
            weights.copy(other.weights);
            homes.copy(other.homes);
            order.copy(other.order);
            floats.copy(other.floats);
            strengths.copy(other.strengths);
            runWeights.copy(other.runWeights);
            open = other.open;
            floatsUsed = other.floatsUsed;
            costs = other.costs;
            merges = other.merges;
            storms = other.storms;
            broken = other.broken;
        }

        int loaded() {
            return keys.size();
        }

        boolean allLoaded() {
            return keys.size() >= MOST_PARCELS;
        }

        int keyOf(int parcel) {
            return keys.get(parcel);
        }

        int weightOf(int parcel) {
            return weights.get(parcel);
        }

        int runs() {
            return floats.size();
        }

        int runNumber(int index) {
            return floats.get(index);
        }

        boolean hasRun(int run) {
            return floats.indexOf(run) != NONE;
        }

        private boolean isLess(int parcel, int other) {
            int key = keys.get(parcel);
            int otherKey = keys.get(other);
            return key < otherKey || key == otherKey && parcel < other;
        }

        // ---- where parcels are

        int countAt(int home) {
            int count = 0;
            for (int parcel = 0; parcel < homes.size(); parcel++) {
                if (homes.get(parcel) == home) {
                    count++;
                }
            }
            return count;
        }

        /** The parcel at a place of a home, NONE if the home has not so many. */
        int parcelAt(int home, int place) {
            int left = place;
            for (int i = 0; i < order.size(); i++) {
                int parcel = order.get(i);
                if (homes.get(parcel) == home) {
                    if (left == 0) {
                        return parcel;
                    }
                    left--;
                }
            }
            return NONE;
        }

        /** The greatest parcel of a home, NONE if the home has none. */
        private int lastAt(int home) {
            for (int i = order.size() - 1; i >= 0; i--) {
                int parcel = order.get(i);
                if (homes.get(parcel) == home) {
                    return parcel;
                }
            }
            return NONE;
        }

        private int placeOf(int parcel) {
            int home = homes.get(parcel);
            int place = 0;
            for (int i = 0; i < order.size(); i++) {
                int other = order.get(i);
                if (other == parcel) {
                    return place;
                }
                if (homes.get(other) == home) {
                    place++;
                }
            }
            return NONE;
        }

        // ---- loading and throwing

        /** The number of the run to which a parcel was thrown, NONE if there was room. */
        int take(int key, int weight) {
            int run = countAt(ABOARD) >= room ? throwOne() : NONE;
            order.insert(notGreater(key), keys.size());
            keys.add(key);
            weights.add(weight);
            homes.add(ABOARD);
            return run;
        }

        /** How many parcels have no greater key: they come before a new one with this key. */
        private int notGreater(int key) {
            int count = 0;
            for (int parcel = 0; parcel < keys.size(); parcel++) {
                if (keys.get(parcel) <= key) {
                    count++;
                }
            }
            return count;
        }

        int takeDrawn(int seed, int parcels, int range) {
            if (range < 1) {
                return 0;
            }
            long x = seed;
            int taken = 0;
            while (taken < parcels && !allLoaded()) {
                x = (x * 1103515245L + 12345L) % 2147483648L;
                take((int) (x / 65536 % range), (int) (x / 1024 % 50) + 1);
                taken++;
            }
            return taken;
        }

        /** The parcel that is thrown overboard next, NONE if the boat is empty. */
        int nextOverboard() {
            int last = open == NONE ? NONE : lastAt(open);
            int least = NONE;
            for (int i = 0; i < order.size(); i++) {
                int parcel = order.get(i);
                if (homes.get(parcel) == ABOARD) {
                    if (last == NONE || isLess(last, parcel)) {
                        return parcel;
                    }
                    if (least == NONE) {
                        least = parcel;
                    }
                }
            }
            return least;
        }

        /** The number of the run to which a parcel was thrown, NONE if the boat was empty. */
        private int throwOne() {
            int parcel = nextOverboard();
            if (parcel == NONE) {
                return NONE;
            }
            if (open == NONE || isLess(parcel, lastAt(open))) {
                open = newFloat();
            }
            tie(parcel, floats.indexOf(open));
            return open;
        }

        /** The runs that there are when the boat is empty. */
        int throwAll() {
            for (int left = countAt(ABOARD); left > 0; left--) {
                throwOne();
            }
            open = NONE;
            return floats.size();
        }

        private int newFloat() {
            int number = floatsUsed;
            floatsUsed++;
            floats.add(number);
            strengths.add(FIRST_STRENGTH);
            runWeights.add(0);
            return number;
        }

        private void tie(int parcel, int runIndex) {
            homes.set(parcel, floats.get(runIndex));
            runWeights.increase(runIndex, weights.get(parcel));
        }

        // ---- merging

        /** Merges two different runs and tells the cost. */
        int join(int first, int second) {
            int kept = Math.min(first, second);
            int gone = Math.max(first, second);
            move(gone, kept);
            int keptIndex = floats.indexOf(kept);
            int goneIndex = floats.indexOf(gone);
            runWeights.increase(keptIndex, runWeights.get(goneIndex));
            removeFloat(goneIndex);
            if (open == first || open == second) {
                open = NONE;
            }
            int cost = runWeights.get(keptIndex);
            costs += cost;
            merges++;
            return cost;
        }

        private void move(int fromHome, int toHome) {
            for (int parcel = 0; parcel < homes.size(); parcel++) {
                if (homes.get(parcel) == fromHome) {
                    homes.set(parcel, toHome);
                }
            }
        }

        private void removeFloat(int runIndex) {
            floats.remove(runIndex);
            strengths.remove(runIndex);
            runWeights.remove(runIndex);
        }

        /** Merges the two lightest runs and tells the number of the new one. */
        int joinLightest() {
            int lightest = lightestBut(NONE);
            int next = lightestBut(lightest);
            int first = floats.get(lightest);
            int second = floats.get(next);
            join(first, second);
            return Math.min(first, second);
        }

        /** The index of the lightest run, one index left out; the first one of several. */
        private int lightestBut(int leftOut) {
            int lightest = NONE;
            for (int i = 0; i < floats.size(); i++) {
                if (i != leftOut
                        && (lightest == NONE || runWeights.get(i) < runWeights.get(lightest))) {
                    lightest = i;
                }
            }
            return lightest;
        }

        int joinAllByWeight() {
            int before = costs;
            for (int left = floats.size(); left > 1; left--) {
                joinLightest();
            }
            return costs - before;
        }

        int joinAllByNumber() {
            int before = costs;
            for (int left = floats.size(); left > 1; left--) {
                join(floats.get(0), floats.get(1));
            }
            return costs - before;
        }

        // ---- storms and the shore

        /** Lets a storm come and tells the runs that broke. */
        int breakRuns(int force) {
            int before = floats.size();
            int breaks = 0;
            for (int i = 0; i < before; i++) {
                if (strengths.get(i) < force && countAt(floats.get(i)) >= 2) {
                    breakRun(i);
                    breaks++;
                }
                strengths.set(i, Math.max(strengths.get(i) - 1, 0));
            }
            open = NONE;
            storms++;
            broken += breaks;
            return breaks;
        }

        private void breakRun(int runIndex) {
            int run = floats.get(runIndex);
            int staying = (countAt(run) + 1) / 2;
            newFloat();
            int newIndex = floats.size() - 1;
            for (int i = 0; i < order.size(); i++) {
                int parcel = order.get(i);
                if (homes.get(parcel) == run) {
                    if (staying > 0) {
                        staying--;
                    } else {
                        runWeights.increase(runIndex, -weights.get(parcel));
                        tie(parcel, newIndex);
                    }
                }
            }
        }

        int strengthen(int run) {
            int index = floats.indexOf(run);
            strengths.set(index, Math.min(strengths.get(index) + 1, MOST_STRENGTH));
            return strengths.get(index);
        }

        boolean canBringAshore(int run) {
            int last = lastAt(ON_LAND);
            return last == NONE || isLess(last, parcelAt(run, 0));
        }

        /** Brings a run ashore and tells the parcels that are there then. */
        int bringAshore(int run) {
            move(run, ON_LAND);
            removeFloat(floats.indexOf(run));
            if (open == run) {
                open = NONE;
            }
            return countAt(ON_LAND);
        }

        // ---- what can be asked

        int parcelFact(int parcel, int what) {
            int home = homes.get(parcel);
            switch (what) {
                case 0:
                    return keys.get(parcel);
                case 1:
                    return weights.get(parcel);
                case 2:
                    return home == ABOARD ? 0 : home == ON_LAND ? 2 : 1;
                case 3:
                    return home == ABOARD || home == ON_LAND ? NONE : home;
                default:
                    return home == ABOARD ? NONE : placeOf(parcel);
            }
        }

        int runFact(int run, int what) {
            switch (what) {
                case 0:
                    return countAt(run);
                case 1:
                    return runWeights.get(floats.indexOf(run));
                case 2:
                    return strengths.get(floats.indexOf(run));
                case 3:
                    return keys.get(parcelAt(run, 0));
                case 4:
                    return keys.get(lastAt(run));
                default:
                    return open == run ? 1 : 0;
            }
        }

        int number(int what) {
            switch (what) {
                case 0:
                    return room;
                case 1:
                    return countAt(ABOARD);
                case 2:
                    return keys.size();
                case 3:
                    return floats.size();
                case 4:
                    return keys.size() - countAt(ABOARD) - countAt(ON_LAND);
                case 5:
                    return countAt(ON_LAND);
                case 6:
                    return costs;
                case 7:
                    return merges;
                case 8:
                    return storms;
                case 9:
                    return broken;
                case 10:
                    return open;
                default:
                    return floatsUsed;
            }
        }

        /** How many parcels with lower numbers have greater keys. */
        int earlierGreater(int parcel) {
            int count = 0;
            for (int earlier = 0; earlier < parcel; earlier++) {
                if (keys.get(earlier) > keys.get(parcel)) {
                    count++;
                }
            }
            return count;
        }
    }

    /** The saved states, in places that are made at once and used again in a ring. */
    private static final class History {
        private final Boat[] places;
        /** The place of the state that is saved next; if all are in use, the oldest state is there. */
        private int next;
        private int count;

        History() {
            places = new Boat[MOST_SAVED];
            for (int i = 0; i < places.length; i++) {
                places[i] = new Boat();
            }
        }

        int count() {
            return count;
        }

        void save(Boat boat) {
            Boat place = placeAt(next);
            if (place != null) {
                place.copy(boat);
                next = (next + 1) % MOST_SAVED;
                count = Math.min(count + 1, MOST_SAVED);
            }
        }

        void restore(Boat boat) {
            int newest = (next + MOST_SAVED - 1) % MOST_SAVED;
            Boat place = placeAt(newest);
            if (place != null) {
                boat.copy(place);
                next = newest;
                count--;
            }
        }

        private Boat placeAt(int index) {
            return index >= 0 && index < places.length ? places[index] : null;
        }
    }

    /** The text, and the orders that were read from it last. */
    private static final class Text {
        /** The shortest order has two bytes. */
        private static final int MOST_ORDERS = MOST_BYTES / 2;

        private final Row bytes;
        private final Row kinds;
        private final Row firsts;
        private final Row seconds;
        private int at;
        /** The syntax error position, NONE as long as none is found. */
        private int error;

        Text() {
            bytes = new Row(MOST_BYTES);
            kinds = new Row(MOST_ORDERS);
            firsts = new Row(MOST_ORDERS);
            seconds = new Row(MOST_ORDERS);
            error = NONE;
        }

        int length() {
            return bytes.size();
        }

        int write(int value) {
            bytes.add(value);
            return bytes.size();
        }

        int wipe() {
            int before = bytes.size();
            bytes.clear();
            return before;
        }

        int orders() {
            return kinds.size();
        }

        int kind(int order) {
            return kinds.get(order);
        }

        int first(int order) {
            return firsts.get(order);
        }

        int second(int order) {
            return seconds.get(order);
        }

        /** Reads all orders and tells the syntax error position, NONE if there is none. */
        int readOrders() {
            kinds.clear();
            firsts.clear();
            seconds.clear();
            at = 0;
            error = NONE;
            // An order that is read takes bytes, so no more orders than bytes can be read.
            for (int i = 0; i < MOST_BYTES && error == NONE && at < bytes.size(); i++) {
                readOrder();
            }
            return error;
        }

        private void readOrder() {
            int kind = here();
            int first = 0;
            int second = 0;
            switch (kind) {
                case 'p':
                    at++;
                    first = readNumber(3, 0, MOST_KEY);
                    readSign(',');
                    second = readNumber(2, 1, MOST_WEIGHT);
                    break;
                case 'e':
                case 'l':
                    at++;
                    break;
                case 's':
                    at++;
                    first = readForce();
                    break;
                case 'm':
                    at++;
                    first = readNumber(3, 0, 999);
                    readSign('+');
                    second = readNumber(3, 0, 999);
                    break;
                default:
                    error = at;
                    break;
            }
            readSign(';');
            if (error == NONE) {
                kinds.add(kind);
                firsts.add(first);
                seconds.add(second);
            }
        }

        /** The byte that is read next, NONE at the end of the text. */
        private int here() {
            return bytes.get(at);
        }

        private boolean isDigitHere() {
            return here() >= '0' && here() <= '9';
        }

        private void readSign(int sign) {
            if (error != NONE) {
                return;
            }
            if (here() == sign) {
                at++;
            } else {
                error = at;
            }
        }

        private int readForce() {
            int digit = here();
            if (digit < '1' || digit > '9') {
                error = at;
                return 0;
            }
            at++;
            return digit - '0';
        }

        private int readNumber(int mostDigits, int least, int most) {
            if (error != NONE) {
                return 0;
            }
            int start = at;
            int number = 0;
            for (int i = 0; i < mostDigits && isDigitHere(); i++) {
                number = 10 * number + here() - '0';
                at++;
            }
            if (at == start || isDigitHere()) {
                error = at;
            } else if (number < least || number > most) {
                error = start;
            }
            return number;
        }
    }
}
