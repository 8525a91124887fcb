import java.math.BigInteger;
import java.util.function.Supplier;

/** Boundaries of promises 1 to 10. What "Undoable." says there is in StateBoundaries. */
final class BoatBoundaries {
    private static final int[] NO_RUNS = {-2, -1, 0, 3, 4, 119, 120, Integer.MIN_VALUE, Integer.MAX_VALUE};

    private BoatBoundaries() {
    }

    static void check() {
        newBoat();
        anotherBoat();
        rooms();
        parcelsBefore();
        loadsAParcel();
        keys();
        weights();
        runOfTheThrownParcel();
        noMoreThan120();
        drawnUntil120();
        drawnNumbers();
        drawnWrapsAround();
        drawnKeysAndWeights();
        seeds();
        drawnParcels();
        ranges();
        parcelsOfThisCall();
        emptied();
        noRunIsOpenWhenEmptied();
        runsWhenEmptied();
        mergesTwoRuns();
        firstAndSecond();
        costOfAMerge();
        noSuchRunToMerge();
        bothAreTheSame();
        mergesTheLightest();
        numberOfTheNewRun();
        fewerThanTwoRuns();
        storms();
        forces();
        runsThatBroke();
        strengthUpwards();
        runsToTighten();
        bringsAshore();
        runsToLand();
        parcelsAshoreThen();
        cannotBeBroughtAshore();
    }

    private static BoatRuns boat(int room) {
        BoatRuns x = new BoatRuns();
        x.begin(room);
        return x;
    }

    /** So many closed runs of one parcel each, whose keys rise. */
    private static BoatRuns runs(int count) {
        BoatRuns x = boat(4);
        for (int i = 0; i < count; i++) {
            Check.makeRun(x, 1 + i, 100 * i);
        }
        return x;
    }

    /** These are no numbers of runs of a busy object, where the runs are 1 and 2. */
    private static void noSuchRun(String what, Check.IntCall call) {
        for (int run : NO_RUNS) {
            Check.refusedOn(what + ", run " + run, Check::busy, Check.ELEMENT, x -> call.run(x, run));
            Check.refusedOn(what + ", no runs, run " + run, BoatRuns::new, Check.ELEMENT, x -> call.run(x, run));
        }
    }

    // ---- promises 1 and 2

    private static void newBoat() {
        Doc.promise(1, "Creates an empty boat with room for 4 parcels.");
        BoatRuns x = new BoatRuns();
        Check.same("values", Check.values(x), "4 0 0 0 0 0 0 0 0 0 -1 0");
        Check.same("no text", x.clearText(), 0);
        Check.refused("no saved state", x, Check.STATE, x::undo);
        for (int parcel = 0; parcel < 4; parcel++) {
            Check.same("room for parcel " + parcel, x.load(parcel, 1), BoatRuns.NONE);
        }
        Check.same("no room for parcel 4", x.load(4, 1), 0);
    }

    private static void anotherBoat() {
        Doc.promise(2, "Begins with another boat: no parcels, no runs, nothing ashore, all counts and numbers as at "
                + "first; the text and the saved states stay.");
        BoatRuns x = Check.busy();
        x.storm(9);
        x.mergeLightest();
        x.begin(3);
        Check.same("values", Check.values(x), "3 0 0 0 0 0 0 0 0 0 -1 0");
        Check.same("the same as a new one", x.runsIfEmptied() + x.inversions() + x.costByNumber() + x.runsWith(1), 0);
        Check.refused("no parcel", x, Check.INDEX, () -> x.parcel(0, 0));
        Check.refused("no run", x, Check.ELEMENT, () -> x.run(0, 0));
        Check.refused("nothing ashore", x, Check.INDEX, () -> x.ashore(0));
        Check.same("the text stays", x.append(';'), 10);
        Check.same("the saved states stay", x.undo(), 3);
        Check.same("all is there again", x.value(2), 8);
        BoatRuns run = boat(1);
        Check.loadKeys(run, 10, 20);
        run.tighten(0);
        run.begin(1);
        run.load(30, 7);
        run.load(40, 8);
        Check.same("the first parcel is 0 again", Check.parcel(run, 0), "30 7 1 0 0");
        Check.same("the next one is 1", Check.parcel(run, 1), "40 8 0 -1 -1");
        Check.same("the first float is 0 again, at strength 5", Check.run(run, 0), "1 7 5 30 30 1");
    }

    private static void rooms() {
        Doc.promise(2, "`room`: 1 to 12");
        for (int room : new int[] {1, 2, 11, 12}) {
            BoatRuns x = Check.busy();
            Check.same("room " + room, x.begin(room), 8);
            Check.same("the room then", x.value(0), room);
        }
        Doc.promise(2, "Throws `IllegalArgumentException` if room is out of range");
        Check.range(Check::busy, 1, 12, Check.ARGUMENT, BoatRuns::begin);
        Check.range(BoatRuns::new, 1, 12, Check.ARGUMENT, BoatRuns::begin);
    }

    private static void parcelsBefore() {
        Doc.promise(2, "Returns the parcels that were loaded before.");
        BoatRuns none = new BoatRuns();
        Check.same("none", none.begin(1), 0);
        none.load(5, 5);
        Check.same("one", none.begin(1), 1);
        Check.same("none again", none.begin(1), 0);
        Check.same("in the boat, in runs, ashore", Check.busy().begin(1), 8);
        Check.same("119", Check.loaded(119).begin(12), 119);
        Check.same("120", Check.loaded(120).begin(12), 120);
    }

    // ---- promise 3

    private static void loadsAParcel() {
        Doc.promise(3, "Loads a parcel.");
        BoatRuns x = boat(1);
        x.load(7, 9);
        Check.same("it is in the boat", Check.parcel(x, 0), "7 9 0 -1 -1");
        x.load(8, 10);
        Check.same("and the next one", Check.parcel(x, 1), "8 10 0 -1 -1");
        Check.same("for which the first one is thrown", Check.parcel(x, 0), "7 9 1 0 0");
        Check.same("one more parcel each", x.value(2), 2);
    }

    private static void keys() {
        Doc.promise(3, "`key`: 0 to 999");
        for (int key : new int[] {0, 1, 998, 999}) {
            BoatRuns x = new BoatRuns();
            Check.same("key " + key, x.load(key, 1), BoatRuns.NONE);
            Check.same("key " + key + ", told", x.parcel(0, 0), key);
        }
        Doc.promise(3, "Throws `IllegalArgumentException` if key or weight is out of range");
        Check.range(Check::busy, 0, 999, Check.ARGUMENT, (x, key) -> x.load(key, 1));
        Check.range(BoatRuns::new, 0, 999, Check.ARGUMENT, (x, key) -> x.load(key, 50));
    }

    private static void weights() {
        Doc.promise(3, "`weight`: 1 to 50");
        for (int weight : new int[] {1, 2, 49, 50}) {
            BoatRuns x = new BoatRuns();
            Check.same("weight " + weight, x.load(0, weight), BoatRuns.NONE);
            Check.same("weight " + weight + ", told", x.parcel(0, 1), weight);
        }
        Doc.promise(3, "Throws `IllegalArgumentException` if key or weight is out of range");
        Check.range(Check::busy, 1, 50, Check.ARGUMENT, (x, weight) -> x.load(0, weight));
        Check.range(BoatRuns::new, 1, 50, Check.ARGUMENT, (x, weight) -> x.load(999, weight));
        Check.refusedOn("both", Check::busy, Check.ARGUMENT, x -> x.load(-1, 0));
    }

    private static void runOfTheThrownParcel() {
        Doc.promise(3, "Returns the number of the run to which a parcel was thrown for it; NONE if the boat had room.");
        BoatRuns x = boat(2);
        Check.same("into the empty boat", x.load(20, 1), BoatRuns.NONE);
        Check.same("into the last place", x.load(10, 1), BoatRuns.NONE);
        Check.same("into the full boat", x.load(5, 1), 0);
        Check.same("full again, 20 fits run 0", x.load(4, 1), 0);
        Check.same("none fits run 0", x.load(3, 1), 1);
        x.empty();
        Check.same("into the emptied boat", x.load(1, 1), BoatRuns.NONE);
        Check.same("into its last place", x.load(1, 1), BoatRuns.NONE);
        Check.same("full, with runs 0 to 2 there", x.load(1, 1), 3);
    }

    private static void noMoreThan120() {
        Doc.promise(3, "Throws `IllegalStateException` if 120 parcels were loaded");
        Check.refusedOn("with 120", () -> Check.loaded(120), Check.STATE, x -> x.load(0, 1));
        Check.refusedOn("with 120, highest arguments", () -> Check.loaded(120), Check.STATE, x -> x.load(999, 50));
        Check.refusedOn("with 120, key -1", () -> Check.loaded(120), Check.ARGUMENT, x -> x.load(-1, 1));
        Check.refusedOn("with 120, key 1000", () -> Check.loaded(120), Check.ARGUMENT, x -> x.load(1000, 1));
        Check.refusedOn("with 120, weight 0", () -> Check.loaded(120), Check.ARGUMENT, x -> x.load(0, 0));
        Check.refusedOn("with 120, weight 51", () -> Check.loaded(120), Check.ARGUMENT, x -> x.load(0, 51));
        BoatRuns x = Check.loaded(119);
        Check.same("with 119", Check.thrown(() -> x.load(0, 1)), "nothing");
        Check.refused("with one more", x, Check.STATE, () -> x.load(0, 1));
        x.undo();
        Check.same("with 119 again", Check.thrown(() -> x.load(0, 1)), "nothing");
    }

    // ---- promise 4

    private static void drawnUntil120() {
        Doc.promise(4, "Loads parcels with drawn keys and weights, one after the other, until 120 are loaded at most.");
        int[][] cases = {{59, 60, 60}, {60, 59, 59}, {60, 60, 60}, {61, 59, 59}, {61, 60, 59}, {118, 1, 1},
            {118, 2, 2}, {118, 3, 2}, {119, 1, 1}, {119, 2, 1}, {119, 60, 1}, {120, 1, 0}, {120, 60, 0}};
        for (int[] some : cases) {
            BoatRuns x = Check.loaded(some[0]);
            String what = some[1] + " behind " + some[0];
            Check.same(what, x.loadDrawn(7, some[1], 1000), some[2]);
            Check.same(what + ", the parcels then", x.value(2), some[0] + some[2]);
        }
        BoatRuns one = boat(3);
        one.loadDrawn(2, 30, 100);
        BoatRuns each = boat(3);
        for (int p = 0; p < 30; p++) {
            each.load(one.parcel(p, 0), one.parcel(p, 1));
        }
        Check.same("they are thrown as by load", Check.runs(one), Check.runs(each));
        for (int p = 0; p < 30; p++) {
            Check.same("parcel " + p, Check.parcel(one, p), Check.parcel(each, p));
        }
    }

    private static BigInteger next(BigInteger x) {
        return x.multiply(BigInteger.valueOf(1103515245)).add(BigInteger.valueOf(12345))
                .mod(BigInteger.valueOf(2147483648L));
    }

    private static void drawnNumbers() {
        Doc.promise(4, "With x = seed, for each parcel: x becomes (x * 1103515245 + 12345) % 2147483648 (long "
                + "arithmetic); the key is x / 65536 % range, and the weight x / 1024 % 50 + 1.");
        int[][] cases = {{0, 60, 1000}, {1, 60, 999}, {2, 60, 2}, {999998, 60, 1}, {999999, 60, 1000}, {123456, 1, 3}};
        for (int[] some : cases) {
            BoatRuns x = boat(12);
            x.loadDrawn(some[0], some[1], some[2]);
            BigInteger drawn = BigInteger.valueOf(some[0]);
            for (int p = 0; p < some[1]; p++) {
                drawn = next(drawn);
                long value = drawn.longValue();
                String what = "seed " + some[0] + ", parcel " + p;
                Check.same(what + ", key", x.parcel(p, 0), value / 65536 % some[2]);
                Check.same(what + ", weight", x.parcel(p, 1), value / 1024 % 50 + 1);
            }
        }
    }

    /** With seed 1 the new x is below 2147483648, with seed 2 it is the first one beyond. */
    private static void drawnWrapsAround() {
        BoatRuns below = boat(1);
        below.loadDrawn(1, 1, 1000);
        Check.same("x = 1103527590", Check.parcel(below, 0), "838 14 0 -1 -1");
        BoatRuns beyond = boat(1);
        beyond.loadDrawn(2, 1, 1000);
        Check.same("x = 2207042835 - 2147483648", Check.parcel(beyond, 0), "908 14 0 -1 -1");
    }

    /** Draws in which the division before the remainder is one below, at, and one above a multiple. */
    private static void drawnKeysAndWeights() {
        for (int range : new int[] {1, 2, 999, 1000}) {
            for (int beside = -1; beside <= 1; beside++) {
                int seed = seedOf(65536, range, beside);
                BoatRuns x = boat(1);
                x.loadDrawn(seed, 1, range);
                int due = range == 1 ? 0 : (beside + range) % range;
                Check.same("range " + range + ", " + beside + ", seed " + seed, x.parcel(0, 0), due);
            }
        }
        for (int beside = -1; beside <= 1; beside++) {
            int seed = seedOf(1024, 50, beside);
            BoatRuns x = boat(1);
            x.loadDrawn(seed, 1, 1000);
            Check.same("the weight, " + beside + ", seed " + seed, x.parcel(0, 1), (beside + 50) % 50 + 1);
        }
    }

    private static int seedOf(int divisor, int range, int beside) {
        for (int seed = 0; seed <= 999999; seed++) {
            long drawn = (seed * 1103515245L + 12345L) % 2147483648L / divisor;
            if (drawn > range && drawn % range == (beside + range) % range) {
                return seed;
            }
        }
        throw new IllegalStateException("there is no such seed");
    }

    private static void seeds() {
        Doc.promise(4, "`seed`: 0 to 999999");
        Check.same("seed 0", firstDrawn(0), "0 13");
        Check.same("seed 1", firstDrawn(1), "838 14");
        long drawn = (999999 * 1103515245L + 12345L) % 2147483648L;
        Check.same("seed 999999", firstDrawn(999999), drawn / 65536 % 1000 + " " + (drawn / 1024 % 50 + 1));
        Doc.promise(4, "Throws `IllegalArgumentException` if an argument is out of range");
        Check.range(Check::busy, 0, 999999, Check.ARGUMENT, (x, seed) -> x.loadDrawn(seed, 1, 1));
    }

    private static String firstDrawn(int seed) {
        BoatRuns x = new BoatRuns();
        Check.same("one parcel", x.loadDrawn(seed, 1, 1000), 1);
        return x.parcel(0, 0) + " " + x.parcel(0, 1);
    }

    private static void drawnParcels() {
        Doc.promise(4, "`parcels`: 1 to 60");
        for (int parcels : new int[] {1, 2, 59, 60}) {
            BoatRuns x = new BoatRuns();
            Check.same("parcels " + parcels, x.loadDrawn(3, parcels, 10), parcels);
            Check.same("parcels " + parcels + ", loaded", x.value(2), parcels);
        }
        Doc.promise(4, "Throws `IllegalArgumentException` if an argument is out of range");
        Check.range(Check::busy, 1, 60, Check.ARGUMENT, (x, parcels) -> x.loadDrawn(0, parcels, 1));
    }

    private static void ranges() {
        Doc.promise(4, "`range`: 1 to 1000");
        for (int range : new int[] {1, 2, 999, 1000}) {
            BoatRuns x = new BoatRuns();
            Check.same("range " + range, x.loadDrawn(3, 60, range), 60);
            for (int p = 0; p < 60; p++) {
                Check.isTrue("range " + range + ", a key in it", x.parcel(p, 0) >= 0 && x.parcel(p, 0) < range);
            }
        }
        Doc.promise(4, "Throws `IllegalArgumentException` if an argument is out of range");
        Check.range(Check::busy, 1, 1000, Check.ARGUMENT, (x, range) -> x.loadDrawn(0, 1, range));
        Supplier<BoatRuns> full = () -> Check.loaded(120);
        Check.refusedOn("with 120 parcels, seed", full, Check.ARGUMENT, x -> x.loadDrawn(-1, 1, 1));
        Check.refusedOn("with 120 parcels, parcels", full, Check.ARGUMENT, x -> x.loadDrawn(0, 61, 1));
        Check.refusedOn("with 120 parcels, range", full, Check.ARGUMENT, x -> x.loadDrawn(0, 1, 0));
        Check.refusedOn("all of them", Check::busy, Check.ARGUMENT, x -> x.loadDrawn(1000000, 0, 1001));
    }

    private static void parcelsOfThisCall() {
        Doc.promise(4, "Returns the number of parcels that this call has loaded.");
        BoatRuns x = new BoatRuns();
        Check.same("60", x.loadDrawn(0, 60, 1000), 60);
        Check.same("59", x.loadDrawn(0, 59, 1000), 59);
        Check.same("one of 60", x.loadDrawn(0, 60, 1000), 1);
        Check.same("none of 60", x.loadDrawn(0, 60, 1000), 0);
        x.begin(1);
        Check.same("60 again", x.loadDrawn(0, 60, 1000), 60);
    }

    // ---- promise 5

    private static void emptied() {
        Doc.promise(5, "Throws all parcels in the boat overboard, one after the other.");
        for (int parcels = 0; parcels <= 13; parcels++) {
            BoatRuns x = boat(12);
            for (int i = 0; i < parcels; i++) {
                x.load(100 - i, 1);
            }
            x.empty();
            Check.same(parcels + " parcels, none is left", x.value(1), 0);
            Check.same(parcels + " parcels, all are in runs", x.value(4), parcels);
        }
        BoatRuns open = boat(3);
        Check.loadKeys(open, 20, 10, 30, 15);
        open.empty();
        Check.same("behind the open run, the least that fits first", Check.row(open, 0), "1 3 0 2");
        BoatRuns two = boat(3);
        Check.loadKeys(two, 20, 10, 30, 5);
        two.empty();
        Check.same("first those that fit", Check.row(two, 0), "1 0 2");
        Check.same("then a new run", Check.row(two, 1), "3");
    }

    private static void noRunIsOpenWhenEmptied() {
        Doc.promise(5, "No run is open then.");
        BoatRuns x = boat(1);
        x.empty();
        Check.same("with nothing to throw", x.value(10), BoatRuns.NONE);
        Check.loadKeys(x, 10, 20);
        Check.same("open before", x.value(10), 0);
        x.empty();
        Check.same("none then", x.value(10) + " " + x.run(0, 5), "-1 0");
        x.empty();
        Check.same("none again", x.value(10), BoatRuns.NONE);
        Check.loadKeys(x, 30, 40);
        Check.same("the next one is a new run", x.value(10), 1);
    }

    private static void runsWhenEmptied() {
        Doc.promise(5, "Returns the runs then.");
        BoatRuns x = boat(2);
        Check.same("none", x.empty(), 0);
        x.load(10, 1);
        Check.same("one of a parcel", x.empty(), 1);
        Check.same("still one", x.empty(), 1);
        Check.loadKeys(x, 20, 30, 5);
        Check.same("one that was open, and one more", x.empty(), 3);
        x.land(0);
        Check.same("without the one ashore", x.empty(), 2);
        x.mergeLightest();
        Check.same("without the merged one", x.empty(), 1);
    }

    // ---- promises 6 and 7

    private static void mergesTwoRuns() {
        Doc.promise(6, "Merges two runs.");
        BoatRuns x = runs(2);
        x.merge(0, 1);
        Check.same("the last two", Check.runs(x), "0");
        Check.same("their parcels", Check.row(x, 0), "0 1");
        BoatRuns three = runs(3);
        three.merge(2, 1);
        Check.same("the others stay", Check.runs(three), "0 1");
        Check.same("one merge", three.value(7), 1);
    }

    private static void firstAndSecond() {
        Doc.promise(6, "`first`: the number of a run");
        Check.same("the lowest one", runs(3).merge(0, 1), 3);
        Check.same("the highest one", runs(3).merge(2, 1), 5);
        Doc.promise(6, "`second`: the number of another run");
        Check.same("the lowest one", runs(3).merge(1, 0), 3);
        Check.same("the highest one", runs(3).merge(1, 2), 5);
    }

    private static void costOfAMerge() {
        Doc.promise(6, "Returns the cost.");
        BoatRuns x = runs(3);
        Check.same("1 and 2", x.merge(0, 1), 3);
        Check.same("3 and 3", x.merge(2, 0), 6);
        Check.same("the sum of both", x.value(6), 9);
        BoatRuns light = boat(4);
        Check.makeRun(light, 1, 5);
        Check.makeRun(light, 1, 5);
        Check.same("the least one", light.merge(1, 0), 2);
    }

    private static void noSuchRunToMerge() {
        Doc.promise(6, "Throws `NoSuchElementException` if there is no such run");
        noSuchRun("first", (x, run) -> x.merge(run, 1));
        noSuchRun("second", (x, run) -> x.merge(1, run));
        noSuchRun("both", (x, run) -> x.merge(run, run));
        Supplier<BoatRuns> merged = () -> {
            BoatRuns x = runs(3);
            x.merge(1, 2);
            return x;
        };
        Check.refusedOn("the merged one", merged, Check.ELEMENT, x -> x.merge(0, 2));
        Check.refusedOn("the merged one twice", merged, Check.ELEMENT, x -> x.merge(2, 2));
        Check.same("the other one", merged.get().merge(0, 1), 6);
    }

    private static void bothAreTheSame() {
        Doc.promise(6, "Throws `IllegalArgumentException` if both are the same");
        Check.refusedOn("1", Check::busy, Check.ARGUMENT, x -> x.merge(1, 1));
        Check.refusedOn("2, the open one", Check::busy, Check.ARGUMENT, x -> x.merge(2, 2));
        Check.refusedOn("the only one", () -> runs(1), Check.ARGUMENT, x -> x.merge(0, 0));
        Check.same("1 and 2", Check.busy().merge(1, 2), 10);
    }

    private static void mergesTheLightest() {
        Doc.promise(7, "Merges the two lightest runs.");
        BoatRuns x = runs(4);
        x.mergeLightest();
        Check.same("weights 1 and 2", Check.row(x, 0), "0 1");
        x.mergeLightest();
        Check.same("weights 3 and 3", Check.row(x, 0), "0 1 2");
        x.mergeLightest();
        Check.same("the last two", Check.row(x, 0), "0 1 2 3");
        Check.same("the costs", x.value(6), 3 + 6 + 10);
        BoatRuns open = Check.busy();
        open.mergeLightest();
        Check.same("the open one, too", open.value(10), BoatRuns.NONE);
    }

    private static void numberOfTheNewRun() {
        Doc.promise(7, "Returns the number of the new run.");
        BoatRuns heavyFirst = boat(4);
        Check.makeRun(heavyFirst, 9, 1);
        Check.makeRun(heavyFirst, 3, 2);
        Check.makeRun(heavyFirst, 2, 3);
        Check.same("2 is the lightest, then 1", heavyFirst.mergeLightest(), 1);
        Check.same("1 is the lightest, then 0", heavyFirst.mergeLightest(), 0);
        BoatRuns equal = boat(4);
        Check.makeRun(equal, 5, 1);
        Check.makeRun(equal, 5, 2);
        Check.same("equal weights", equal.mergeLightest(), 0);
    }

    private static void fewerThanTwoRuns() {
        Doc.promise(7, "Throws `IllegalStateException` if there are fewer than two runs");
        Check.refusedOn("no runs", BoatRuns::new, Check.STATE, BoatRuns::mergeLightest);
        Check.refusedOn("one run", () -> runs(1), Check.STATE, BoatRuns::mergeLightest);
        Check.refusedOn("one run, open", () -> {
            BoatRuns x = boat(1);
            Check.loadKeys(x, 1, 2);
            return x;
        }, Check.STATE, BoatRuns::mergeLightest);
        Check.refusedOn("one run, another one ashore", () -> {
            BoatRuns x = runs(2);
            x.land(0);
            return x;
        }, Check.STATE, BoatRuns::mergeLightest);
        Check.same("two runs", runs(2).mergeLightest(), 0);
    }

    // ---- promises 8 and 9

    private static void storms() {
        Doc.promise(8, "Lets a storm come.");
        BoatRuns x = new BoatRuns();
        x.storm(1);
        Check.same("without runs", Check.values(x), "4 0 0 0 0 0 0 0 1 0 -1 0");
        BoatRuns one = boat(2);
        Check.makeRun(one, 1, 10, 20);
        one.storm(5);
        Check.same("none breaks", Check.values(one), "2 0 2 1 2 0 0 0 1 0 -1 1");
        one.storm(5);
        Check.same("one breaks", Check.values(one), "2 0 2 2 2 0 0 0 2 1 -1 2");
    }

    private static void forces() {
        Doc.promise(8, "`force`: 1 to 9");
        for (int force : new int[] {1, 2, 5, 6, 8, 9}) {
            BoatRuns x = boat(2);
            Check.makeRun(x, 1, 10, 20);
            Check.same("force " + force + " at strength 5", x.storm(force), force > 5 ? 1 : 0);
        }
        Doc.promise(8, "Throws `IllegalArgumentException` if force is out of range");
        Check.range(Check::busy, 1, 9, Check.ARGUMENT, BoatRuns::storm);
        Check.range(BoatRuns::new, 1, 9, Check.ARGUMENT, BoatRuns::storm);
    }

    private static void runsThatBroke() {
        Doc.promise(8, "Returns the runs that broke.");
        Check.same("none of none", new BoatRuns().storm(9), 0);
        BoatRuns x = boat(4);
        Check.makeRun(x, 1, 10);
        Check.same("none of one parcel", x.storm(9), 0);
        Check.makeRun(x, 1, 10, 20);
        Check.same("one of two", x.storm(9), 1);
        Check.makeRun(x, 1, 10, 20, 30, 40);
        Check.same("one of four", x.storm(9), 1);
        Check.same("the new one and the old one", x.storm(9), 2);
        Check.same("none", x.storm(9), 0);
        Check.same("all so far", x.value(9), 4);
    }

    private static void strengthUpwards() {
        Doc.promise(9, "Changes the strength of the float of a run by 1 upwards, not above 9.");
        BoatRuns x = boat(2);
        Check.makeRun(x, 1, 10, 20);
        for (int i = 0; i < 5; i++) {
            x.storm(1);
        }
        Check.same("strength 0", x.run(0, 2), 0);
        int[] then = {1, 2, 3, 4, 5, 6, 7, 8, 9, 9, 9};
        for (int strength : then) {
            x.tighten(0);
            Check.same("upwards", x.run(0, 2), strength);
        }
        Check.same("strength 9 stands force 9", x.storm(9), 0);
        Check.same("strength 8 doesn't", x.storm(9), 1);
        Doc.promise(9, "Returns the strength then.");
        BoatRuns y = runs(2);
        for (int strength : new int[] {6, 7, 8, 9, 9}) {
            Check.same("of run 1", y.tighten(1), strength);
        }
        Check.same("of run 0", y.tighten(0), 6);
    }

    private static void runsToTighten() {
        Doc.promise(9, "`run`: the number of a run");
        Check.same("the lowest one", runs(3).tighten(0), 6);
        Check.same("the highest one", runs(3).tighten(2), 6);
        Check.same("the open one", Check.busy().tighten(2), 6);
        Doc.promise(9, "Throws `NoSuchElementException` if there is no such run");
        noSuchRun("tighten", (x, run) -> x.tighten(run));
        Check.refusedOn("one too many", () -> runs(3), Check.ELEMENT, x -> x.tighten(3));
    }

    // ---- promise 10

    private static void bringsAshore() {
        Doc.promise(10, "Brings a run ashore.");
        BoatRuns x = Check.busy();
        x.land(1);
        Check.same("behind the others", Check.shore(x), "1 0 3 2");
        Check.same("a parcel of it", Check.parcel(x, 3), "50 2 2 -1 2");
        Check.same("the runs that are left", Check.runs(x), "2");
        BoatRuns one = runs(1);
        one.land(0);
        Check.same("the only one", Check.values(one), "4 0 1 0 0 1 0 0 0 0 -1 1");
    }

    private static void runsToLand() {
        Doc.promise(10, "`run`: the number of a run");
        Check.same("the lowest one", runs(3).land(0), 1);
        Check.same("the highest one", runs(3).land(2), 1);
        Check.same("the open one", Check.busy().land(2), 4);
        Doc.promise(10, "Throws `NoSuchElementException` if there is no such run");
        noSuchRun("land", (x, run) -> x.land(run));
        Check.refusedOn("one too many", () -> runs(3), Check.ELEMENT, x -> x.land(3));
        Supplier<BoatRuns> landed = () -> {
            BoatRuns x = runs(1);
            x.land(0);
            return x;
        };
        Check.refusedOn("the one that is ashore", landed, Check.ELEMENT, x -> x.land(0));
    }

    private static void parcelsAshoreThen() {
        Doc.promise(10, "Returns the parcels ashore then.");
        BoatRuns x = runs(3);
        Check.same("one", x.land(0), 1);
        Check.same("two", x.land(1), 2);
        Check.same("three", x.land(2), 3);
        BoatRuns all = boat(1);
        for (int i = 0; i < 119; i++) {
            all.load(i, 1);
        }
        all.empty();
        all.load(999, 1);
        all.empty();
        Check.same("119", all.land(0), 119);
        Check.same("120", all.land(1), 120);
    }

    private static void cannotBeBroughtAshore() {
        Doc.promise(10, "Throws `IllegalStateException` if it cannot be brought ashore");
        for (int key : new int[] {499, 500, 501}) {
            Supplier<BoatRuns> made = () -> {
                BoatRuns x = new BoatRuns();
                Check.makeRun(x, 1, key, 900);
                Check.makeRun(x, 1, 500);
                x.land(1);
                return x;
            };
            if (key <= 500) {
                Check.refusedOn("first key " + key + ", number 0, behind 500", made, Check.STATE, x -> x.land(0));
            } else {
                Check.same("first key " + key + " behind 500", made.get().land(0), 3);
            }
            Check.refusedOn("no run, behind 500", made, Check.ELEMENT, x -> x.land(1));
        }
        Check.same("behind nothing", runs(1).land(0), 1);
    }
}
