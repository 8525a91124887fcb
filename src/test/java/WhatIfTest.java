/** Promises 17 to 23: the what-if questions. */
public final class WhatIfTest {
    public static void main(String[] args) {
        nextThrown();
        runsIfEmptied();
        costByWeight();
        costByNumber();
        runsWith();
        runsWithRefused();
        leastRoom();
        leastRoomIsTheFirstThatGivesOneRun();
        inversions();
        nothingChanges();
        Check.finish();
    }

    private static void nextThrown() {
        BoatRuns x = new BoatRuns();
        x.begin(2);
        Check.same("17: empty boat", x.nextThrown(), BoatRuns.NONE);
        Check.loadKeys(x, 20, 10);
        Check.same("17: no run is open", x.nextThrown(), 1);
        x.load(5, 1);
        Check.same("17: it fits the open run", x.nextThrown(), 0);
        x.load(6, 1);
        Check.same("17: none fits, the least", x.nextThrown(), 2);
        x.load(5, 1);
        Check.same("17: equal key behind the last of the new run", x.nextThrown(), 4);
        x.load(1, 1);
        Check.same("17: it is still the open one", x.nextThrown(), 3);
        x.empty();
        Check.same("17: empty boat again", x.nextThrown(), BoatRuns.NONE);
        BoatRuns ties = new BoatRuns();
        Check.loadKeys(ties, 9, 9, 9);
        Check.same("17: the lowest number of equal keys", ties.nextThrown(), 0);
        BoatRuns open = new BoatRuns();
        open.begin(2);
        Check.loadKeys(open, 5, 9, 5, 1);
        Check.same("17: equal key behind the last", open.nextThrown(), 1);
        open.storm(1);
        Check.same("17: after a storm the least", open.nextThrown(), 3);
    }

    private static void runsIfEmptied() {
        BoatRuns x = new BoatRuns();
        x.begin(2);
        Check.same("18: nothing there", x.runsIfEmptied(), 0);
        Check.loadKeys(x, 20, 10);
        Check.same("18: one", x.runsIfEmptied(), 1);
        x.load(30, 1);
        Check.same("18: all fit the open run", x.runsIfEmptied(), 1);
        x.load(5, 1);
        Check.same("18: one doesn't fit", x.runsIfEmptied(), 2);
        x.load(6, 1);
        Check.same("18: both don't fit", x.runsIfEmptied(), 2);
        Check.same("18: so it is", x.empty(), 2);
        Check.same("18: empty boat", x.runsIfEmptied(), 2);
        x.load(999, 1);
        Check.same("18: no run is open", x.runsIfEmptied(), 3);
    }

    private static void costByWeight() {
        BoatRuns x = new BoatRuns();
        Check.same("19: no runs", x.costByWeight(), 0);
        Check.makeRun(x, 20, 4);
        Check.same("19: one run", x.costByWeight(), 0);
        Check.makeRun(x, 10, 3);
        Check.same("19: two runs", x.costByWeight(), 30);
        Check.makeRun(x, 30, 2);
        Check.makeRun(x, 15, 1);
        x.load(500, 50);
        Check.same("19: 25, 45, 75", x.costByWeight(), 145);
        BoatRuns many = new BoatRuns();
        for (int weight : new int[] {1, 1, 2, 3, 5, 8}) {
            Check.makeRun(many, weight, 7);
        }
        Check.same("19: 2, 4, 7, 12, 20", many.costByWeight(), 45);
        many.mergeLightest();
        Check.same("19: earlier costs don't count", many.costByWeight(), 43);
    }

    private static void costByNumber() {
        BoatRuns x = new BoatRuns();
        Check.same("20: no runs", x.costByNumber(), 0);
        Check.makeRun(x, 20, 4);
        Check.same("20: one run", x.costByNumber(), 0);
        Check.makeRun(x, 10, 3);
        Check.makeRun(x, 30, 2);
        Check.makeRun(x, 15, 1);
        x.load(500, 50);
        Check.same("20: 30, 60, 75", x.costByNumber(), 165);
        x.merge(2, 3);
        Check.same("20: 30, 75", x.costByNumber(), 105);
    }

    private static void runsWith() {
        BoatRuns x = new BoatRuns();
        Check.same("21: no parcels", x.runsWith(1), 0);
        Check.loadKeys(x, 50, 20, 70, 10, 60, 5);
        // The runs with room 1: 50 / 20 70 / 10 60 / 5; 2: 20 50 70 / 10 60 / 5; 3: 20 50 60 70 / 5 10.
        Check.same("21: room 1", x.runsWith(1), 4);
        Check.same("21: room 2", x.runsWith(2), 3);
        Check.same("21: room 3", x.runsWith(3), 2);
        Check.same("21: room 5", x.runsWith(5), 2);
        Check.same("21: room 6", x.runsWith(6), 1);
        Check.same("21: room 120", x.runsWith(120), 1);
        x.empty();
        x.storm(9);
        Check.same("21: runs don't matter", x.runsWith(2), 3);
        x.begin(3);
        Check.same("21: begin forgets", x.runsWith(1), 0);
        Check.loadKeys(x, 7, 7, 7);
        Check.same("21: equal keys rise", x.runsWith(1), 1);
        BoatRuns falling = new BoatRuns();
        for (int key = 120; key > 0; key--) {
            falling.load(key, 1);
        }
        Check.same("21: falling, room 1", falling.runsWith(1), 120);
        Check.same("21: falling, room 119", falling.runsWith(119), 2);
        Check.same("21: falling, room 120", falling.runsWith(120), 1);
        Check.same("22: falling", falling.leastRoom(), 120);
        Check.same("23: falling", falling.inversions(), 7140);
    }

    private static void runsWithRefused() {
        BoatRuns x = new BoatRuns();
        Check.loadKeys(x, 3, 2, 1);
        Check.refused("21: room 0", x, Check.ARGUMENT, () -> x.runsWith(0));
        Check.refused("21: room 121", x, Check.ARGUMENT, () -> x.runsWith(121));
        Check.refused("21: room MIN", x, Check.ARGUMENT, () -> x.runsWith(Integer.MIN_VALUE));
    }

    private static void leastRoom() {
        BoatRuns x = new BoatRuns();
        Check.same("22: no parcels", x.leastRoom(), 1);
        Check.loadKeys(x, 5, 5, 6);
        Check.same("22: rising", x.leastRoom(), 1);
        x.load(5, 1);
        Check.same("22: one is too late", x.leastRoom(), 2);
        x.load(7, 1);
        Check.same("22: still", x.leastRoom(), 2);
        x.load(1, 1);
        Check.same("22: behind five", x.leastRoom(), 6);
        x.begin(1);
        Check.same("22: begin forgets", x.leastRoom(), 1);
    }

    private static void leastRoomIsTheFirstThatGivesOneRun() {
        for (int seed = 0; seed < 40; seed++) {
            BoatRuns x = new BoatRuns();
            x.loadDrawn(seed * 4711, 1 + seed * 3 % 60, 1 + seed * seed % 1000);
            if (seed % 3 == 0) {
                x.loadDrawn(seed, 60, 1000);
            }
            int room = 1;
            while (x.runsWith(room) > 1) {
                room++;
            }
            Check.same("22: seed " + seed, x.leastRoom(), room);
        }
    }

    private static void inversions() {
        BoatRuns x = new BoatRuns();
        Check.same("23: no parcels", x.inversions(), 0);
        x.load(5, 1);
        Check.same("23: one", x.inversions(), 0);
        Check.loadKeys(x, 5, 6);
        Check.same("23: equal keys are in order", x.inversions(), 0);
        x.load(5, 1);
        Check.same("23: one pair", x.inversions(), 1);
        x.load(0, 1);
        Check.same("23: four more", x.inversions(), 5);
        x.empty();
        Check.same("23: wherever they are", x.inversions(), 5);
        x.begin(4);
        Check.same("23: begin forgets", x.inversions(), 0);
    }

    private static void nothingChanges() {
        BoatRuns x = new BoatRuns();
        x.loadDrawn(99, 40, 500);
        x.storm(7);
        x.loadDrawn(98, 20, 500);
        String before = Check.picture(x);
        Check.same("17 to 23: nothing changes", Check.picture(x), before);
        Check.same("17 to 23: no state is saved", x.undo(), 2);
    }
}
