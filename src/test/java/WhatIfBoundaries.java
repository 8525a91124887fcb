import java.util.PriorityQueue;

/** Boundaries of promises 17 to 23. */
final class WhatIfBoundaries {
    private WhatIfBoundaries() {
    }

    static void check() {
        nextThrown();
        nextThrownOfTheOpenRun();
        noneIsThrown();
        runsIfEmptied();
        runsOfFullBoats();
        costByWeight();
        boatsDoNotMatterByWeight();
        sumsByWeight();
        costByNumber();
        boatsDoNotMatterByNumber();
        sumsByNumber();
        runsWith();
        runsWithEachRoom();
        roomsToAskFor();
        leastRoom();
        leastRoomOfMany();
        inversions();
        inversionsOfMany();
        nothingChanges();
        Doc.noBoundary(18, "Returns their number.");
        Doc.noBoundary(21, "Returns their number.");
        Doc.noBoundary(23, "Returns their number.");
    }

    private static BoatRuns boat(int room, int... keys) {
        BoatRuns x = new BoatRuns();
        x.begin(room);
        Check.loadKeys(x, keys);
        return x;
    }

    /** Closed runs of one parcel each, with these weights. */
    private static BoatRuns runsOf(int... weights) {
        BoatRuns x = new BoatRuns();
        for (int weight : weights) {
            Check.makeRun(x, weight, 500);
        }
        return x;
    }

    /** So many parcels of weight 1, whose keys change by a step, starting with a key. */
    private static BoatRuns row(int room, int parcels, int key, int step) {
        BoatRuns x = boat(room);
        for (int i = 0; i < parcels; i++) {
            x.load(key + i * step, 1);
        }
        return x;
    }

    // ---- promises 17 and 18

    private static void nextThrown() {
        Doc.promise(17, "Tells the parcel that would be thrown overboard next.");
        Check.same("the only one", boat(4, 7).nextThrown(), 0);
        Check.same("the lesser one", boat(4, 7, 6).nextThrown(), 1);
        Check.same("equal keys, the lower number", boat(4, 7, 7).nextThrown(), 0);
        Check.same("a full boat", boat(4, 9, 8, 7, 8).nextThrown(), 2);
        Check.same("the last one of a full boat", boat(12, 12, 11, 10, 9, 8, 7, 6, 5, 4, 3, 2, 1).nextThrown(), 11);
        for (int key : new int[] {0, 499, 500, 501, 999}) {
            BoatRuns x = boat(3, 500, 600, 700, key);
            int next = x.nextThrown();
            x.load(0, 1);
            Check.same("it is the one that is thrown then", x.parcel(next, 2), 1);
            Check.same("the next one, with key " + key, next, key == 500 || key == 501 ? 3 : 1);
        }
    }

    private static void nextThrownOfTheOpenRun() {
        Check.same("the last one has key 500, equal key", boat(1, 500, 500).nextThrown(), 1);
        Check.same("all are less, the least of them", boat(3, 500, 501, 502, 499, 498, 497).nextThrown(), 5);
        Check.same("one is less, one is not", boat(2, 500, 501, 499).nextThrown(), 1);
        BoatRuns x = boat(2, 500, 501, 499);
        x.storm(1);
        Check.same("no run is open any more", x.nextThrown(), 2);
        BoatRuns landed = boat(2, 500, 501, 499);
        landed.land(0);
        Check.same("the open run is ashore", landed.nextThrown(), 2);
        BoatRuns merged = boat(2);
        Check.makeRun(merged, 1, 1);
        Check.loadKeys(merged, 500, 501, 499);
        Check.same("the open run before", merged.nextThrown(), 2);
        merged.merge(0, 1);
        Check.same("the open run is merged", merged.nextThrown(), 3);
    }

    private static void noneIsThrown() {
        Doc.promise(17, "Returns its number; NONE if the boat is empty.");
        BoatRuns x = new BoatRuns();
        Check.same("at first", x.nextThrown(), BoatRuns.NONE);
        x.load(999, 1);
        Check.same("with one parcel", x.nextThrown(), 0);
        x.empty();
        Check.same("emptied", x.nextThrown(), BoatRuns.NONE);
        x.load(0, 1);
        Check.same("with one again", x.nextThrown(), 1);
        x.begin(12);
        Check.same("with another boat", x.nextThrown(), BoatRuns.NONE);
    }

    private static void runsIfEmptied() {
        Doc.promise(18, "Tells how many runs there would be if the boat was emptied now.");
        Check.same("nothing there", boat(4).runsIfEmptied(), 0);
        Check.same("one parcel", boat(4, 7).runsIfEmptied(), 1);
        Check.same("falling keys in the boat", boat(4, 9, 8, 7, 6).runsIfEmptied(), 1);
        Check.same("the open run goes on", boat(1, 500, 501).runsIfEmptied(), 1);
        Check.same("with an equal key", boat(1, 500, 500).runsIfEmptied(), 1);
        Check.same("it doesn't", boat(1, 500, 499).runsIfEmptied(), 2);
        Check.same("one fits, one doesn't", boat(2, 500, 501, 499).runsIfEmptied(), 2);
        BoatRuns closed = boat(4, 500);
        closed.empty();
        Check.same("an empty boat, one run", closed.runsIfEmptied(), 1);
        closed.load(501, 1);
        Check.same("no run is open", closed.runsIfEmptied(), 2);
        BoatRuns landed = boat(1, 500, 501);
        landed.land(0);
        Check.same("the only run is ashore", landed.runsIfEmptied(), 1);
    }

    private static void runsOfFullBoats() {
        for (int parcels : new int[] {1, 59, 60, 119, 120}) {
            BoatRuns x = Check.loaded(parcels);
            int runs = x.runsIfEmptied();
            Check.same("so it is, " + parcels, x.empty(), runs);
            Check.same("and stays, " + parcels, x.runsIfEmptied(), runs);
        }
        Check.same("120 runs", row(1, 120, 120, -1).runsIfEmptied(), 120);
        Check.same("one of 120", row(12, 120, 0, 1).runsIfEmptied(), 1);
    }

    // ---- promises 19 and 20

    private static void costByWeight() {
        Doc.promise(19, "Tells the sum of the costs if the two lightest runs were merged again and again until one run is "
                + "left.");
        Check.same("two", runsOf(1, 1).costByWeight(), 2);
        Check.same("three", runsOf(1, 2, 3).costByWeight(), 9);
        Check.same("three, falling", runsOf(3, 2, 1).costByWeight(), 9);
        Check.same("equal ones", runsOf(5, 5, 5, 5).costByWeight(), 40);
        Check.same("one heavy, 2, 4, 54", runsOf(50, 1, 1, 2).costByWeight(), 60);
        Check.same("a new run as heavy as another one", runsOf(2, 1, 1, 2).costByWeight(), 12);
        BoatRuns many = row(1, 120, 120, -1);
        many.empty();
        PriorityQueue<Integer> weights = new PriorityQueue<>();
        for (int i = 0; i < 120; i++) {
            weights.add(1);
        }
        int sum = 0;
        while (weights.size() > 1) {
            int cost = weights.remove() + weights.remove();
            sum += cost;
            weights.add(cost);
        }
        Check.same("120 runs", many.costByWeight(), sum);
    }

    private static void boatsDoNotMatterByWeight() {
        Doc.promise(19, "The boat does not matter.");
        BoatRuns x = runsOf(3, 4);
        Check.same("an empty boat", x.costByWeight(), 7);
        x.load(1, 50);
        Check.same("a parcel in it", x.costByWeight(), 7);
        Check.loadKeys(x, 2, 3, 4);
        Check.same("a full boat", x.costByWeight(), 7);
        x.load(5, 1);
        Check.same("an open run of weight 50", x.costByWeight(), 7 + 57);
        Check.same("an open run alone", boat(1, 5, 6).costByWeight(), 0);
    }

    private static void sumsByWeight() {
        Doc.promise(19, "Returns the sum; 0 with fewer than two runs.");
        Check.same("no runs", runsOf().costByWeight(), 0);
        Check.same("no runs, a full boat", boat(4, 1, 2, 3, 4).costByWeight(), 0);
        Check.same("one run", runsOf(50).costByWeight(), 0);
        Check.same("two runs", runsOf(50, 50).costByWeight(), 100);
        BoatRuns merged = runsOf(1, 2);
        merged.merge(0, 1);
        Check.same("one run that cost 3", merged.costByWeight(), 0);
        BoatRuns landed = runsOf(1, 2);
        landed.land(0);
        Check.same("one run, and one ashore", landed.costByWeight(), 0);
    }

    private static void costByNumber() {
        Doc.promise(20, "Tells the sum of the costs if the run with the lowest number was merged with the one with the "
                + "second lowest again and again until one run is left.");
        Check.same("two", runsOf(1, 1).costByNumber(), 2);
        Check.same("three", runsOf(1, 2, 3).costByNumber(), 9);
        Check.same("three, falling", runsOf(3, 2, 1).costByNumber(), 11);
        Check.same("equal ones", runsOf(5, 5, 5, 5).costByNumber(), 45);
        Check.same("51, 52, 54", runsOf(50, 1, 1, 2).costByNumber(), 157);
        BoatRuns gap = runsOf(50, 1, 2, 4);
        gap.land(0);
        Check.same("numbers with a gap, 3, 7", gap.costByNumber(), 10);
        BoatRuns many = row(1, 120, 120, -1);
        many.empty();
        Check.same("120 runs", many.costByNumber(), 120 * 121 / 2 - 1);
    }

    private static void boatsDoNotMatterByNumber() {
        Doc.promise(20, "The boat does not matter.");
        BoatRuns x = runsOf(3, 4);
        Check.same("an empty boat", x.costByNumber(), 7);
        x.load(1, 50);
        Check.same("a parcel in it", x.costByNumber(), 7);
        Check.loadKeys(x, 2, 3, 4);
        Check.same("a full boat", x.costByNumber(), 7);
        x.load(5, 1);
        Check.same("an open run of weight 50", x.costByNumber(), 7 + 57);
        Check.same("an open run alone", boat(1, 5, 6).costByNumber(), 0);
    }

    private static void sumsByNumber() {
        Doc.promise(20, "Returns the sum; 0 with fewer than two runs.");
        Check.same("no runs", runsOf().costByNumber(), 0);
        Check.same("no runs, a full boat", boat(4, 1, 2, 3, 4).costByNumber(), 0);
        Check.same("one run", runsOf(50).costByNumber(), 0);
        Check.same("two runs", runsOf(50, 50).costByNumber(), 100);
        BoatRuns merged = runsOf(1, 2);
        merged.merge(0, 1);
        Check.same("one run that cost 3", merged.costByNumber(), 0);
        BoatRuns landed = runsOf(1, 2);
        landed.land(0);
        Check.same("one run, and one ashore", landed.costByNumber(), 0);
    }

    // ---- promise 21

    private static void runsWith() {
        Doc.promise(21, "Tells how many runs an empty boat with some room would make of all parcels that were loaded so "
                + "far, loaded in their order, and emptied in the end.");
        for (int room : new int[] {1, 12, 120}) {
            Check.same("no parcels, room " + room, boat(4).runsWith(room), 0);
            Check.same("one parcel, room " + room, boat(4, 5).runsWith(room), 1);
            Check.same("rising, room " + room, boat(4, 5, 6).runsWith(room), 1);
            Check.same("equal keys, room " + room, boat(4, 5, 5).runsWith(room), 1);
            Check.same("falling, room " + room, boat(4, 6, 5).runsWith(room), room == 1 ? 2 : 1);
        }
        BoatRuns x = boat(4, 30, 20, 10);
        Check.same("in the boat", x.runsWith(1), 3);
        x.empty();
        Check.same("in a run", x.runsWith(1), 3);
        x.land(0);
        Check.same("ashore", x.runsWith(1), 3);
        x.load(5, 1);
        Check.same("ashore and in the boat", x.runsWith(1), 4);
        Check.same("room 2", x.runsWith(2), 2);
        Check.same("room 3", x.runsWith(3), 2);
        Check.same("room 4", x.runsWith(4), 1);
        x.begin(4);
        Check.same("another boat", x.runsWith(1), 0);
    }

    private static void runsWithEachRoom() {
        BoatRuns x = Check.loaded(120);
        for (int room = 1; room <= 12; room++) {
            BoatRuns same = boat(room);
            same.loadDrawn(120, 60, 1000);
            same.loadDrawn(120, 60, 1000);
            Check.same("so it is with room " + room, x.runsWith(room), same.empty());
        }
        BoatRuns falling = row(4, 120, 120, -1);
        for (int room : new int[] {1, 2, 3, 39, 40, 59, 60, 61, 118, 119, 120}) {
            Check.same("falling, room " + room, falling.runsWith(room), (120 + room - 1) / room);
        }
    }

    private static void roomsToAskFor() {
        Doc.promise(21, "`room`: 1 to 120");
        BoatRuns x = boat(4, 3, 2, 1);
        Check.same("the least room", x.runsWith(1), 3);
        Check.same("the next one", x.runsWith(2), 2);
        Check.same("more than a boat can have", x.runsWith(13), 1);
        Check.same("nearly the greatest room", x.runsWith(119), 1);
        Check.same("the greatest room", x.runsWith(120), 1);
        Doc.promise(21, "Throws `IllegalArgumentException` if room is out of range");
        Check.range(Check::busy, 1, 120, Check.ARGUMENT, BoatRuns::runsWith);
        Check.range(BoatRuns::new, 1, 120, Check.ARGUMENT, BoatRuns::runsWith);
        Check.range(() -> Check.loaded(120), 1, 120, Check.ARGUMENT, BoatRuns::runsWith);
    }

    // ---- promises 22 and 23

    private static void leastRoom() {
        Doc.promise(22, "Finds the least room with which that would be at most one run.");
        Check.same("rising", boat(4, 1, 2, 3).leastRoom(), 1);
        Check.same("equal keys", boat(4, 5, 5, 5).leastRoom(), 1);
        Check.same("one behind one that is greater", boat(4, 5, 4).leastRoom(), 2);
        Check.same("one behind an equal one and one that is greater", boat(4, 5, 6, 5).leastRoom(), 2);
        Check.same("two behind one", boat(4, 7, 5, 6).leastRoom(), 2);
        Check.same("one behind two", boat(4, 6, 7, 5).leastRoom(), 3);
        Check.same("one behind two, further on", boat(4, 1, 2, 6, 7, 5, 9).leastRoom(), 3);
        BoatRuns x = boat(12, 5, 4, 6, 2, 8, 3, 7, 1);
        int room = x.leastRoom();
        Check.same("at most one run", x.runsWith(room), 1);
        Check.same("not with one less", x.runsWith(room - 1), 2);
    }

    private static void leastRoomOfMany() {
        Doc.promise(22, "Returns the room, 1 or more.");
        Check.same("no parcels", boat(4).leastRoom(), 1);
        Check.same("one parcel", boat(4, 0).leastRoom(), 1);
        Check.same("119 falling", row(1, 119, 999, -1).leastRoom(), 119);
        Check.same("120 falling", row(12, 120, 999, -1).leastRoom(), 120);
        Check.same("120 rising", row(12, 120, 0, 1).leastRoom(), 1);
        Check.same("120 equal ones", row(12, 120, 7, 0).leastRoom(), 1);
        BoatRuns last = row(4, 119, 1, 1);
        last.load(0, 1);
        Check.same("the last one is the least of 120", last.leastRoom(), 120);
        BoatRuns middle = row(4, 118, 2, 1);
        middle.load(2, 1);
        Check.same("the last one is equal to the first", middle.leastRoom(), 118);
        BoatRuns drawn = Check.loaded(120);
        int room = drawn.leastRoom();
        Check.same("drawn, at most one run", drawn.runsWith(room), 1);
        Check.isTrue("drawn, not with one less", drawn.runsWith(room - 1) > 1);
    }

    private static void inversions() {
        Doc.promise(23, "Tells how many pairs of parcels that were loaded so far are in the wrong order: the one with the "
                + "lower number has the greater key.");
        Check.same("no parcels", boat(4).inversions(), 0);
        Check.same("one parcel", boat(4, 5).inversions(), 0);
        Check.same("key one less behind", boat(4, 5, 4).inversions(), 1);
        Check.same("equal keys", boat(4, 5, 5).inversions(), 0);
        Check.same("key one greater behind", boat(4, 5, 6).inversions(), 0);
        Check.same("999 and 0", boat(4, 999, 0).inversions(), 1);
        Check.same("each pair of three", boat(4, 3, 2, 1).inversions(), 3);
        Check.same("not only neighbours", boat(4, 3, 1, 2).inversions(), 2);
        Check.same("equal keys among them", boat(4, 3, 1, 3, 1).inversions(), 3);
    }

    private static void inversionsOfMany() {
        Check.same("119 falling", row(1, 119, 999, -1).inversions(), 119 * 118 / 2);
        Check.same("120 falling", row(1, 120, 999, -1).inversions(), 7140);
        Check.same("120 rising", row(1, 120, 0, 1).inversions(), 0);
        Check.same("120 equal ones", row(1, 120, 7, 0).inversions(), 0);
        BoatRuns x = boat(2, 30, 20, 10);
        Check.same("in the boat and in a run", x.inversions(), 3);
        x.empty();
        x.land(1);
        Check.same("in a run and ashore", x.inversions(), 3);
        x.begin(2);
        Check.same("another boat", x.inversions(), 0);
    }

    /** The questions leave all as it is: they save no state and count nothing. */
    private static void nothingChanges() {
        BoatRuns x = Check.busy();
        x.nextThrown();
        x.runsIfEmptied();
        x.costByWeight();
        x.costByNumber();
        x.runsWith(1);
        x.runsWith(120);
        x.leastRoom();
        x.inversions();
        Check.same("all of it", Check.story(x), Check.story(Check.busy()));
    }
}
