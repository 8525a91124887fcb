/** Promises 1 to 10: a new object, and the calls that change the boat. */
public final class BoatTest {
    public static void main(String[] args) {
        newObject();
        begin();
        beginForgetsRunsAndCounts();
        beginKeepsTextAndSavedStates();
        loadThrowsTheLeastThatFits();
        loadKeepsTiesAsTheyCame();
        loadEdges();
        loadLimit();
        loadDrawn();
        loadDrawnLimit();
        loadDrawnEdges();
        empty();
        emptyMakesTwoRuns();
        merge();
        mergeTakesTheLowerFloat();
        mergeClosesOnlyItsOwnRuns();
        mergeRefused();
        mergeLightest();
        mergeLightestTies();
        storm();
        stormForceAndStrength();
        stormNumbersNewFloatsInOrder();
        stormEdges();
        tighten();
        land();
        landClosesTheOpenRun();
        landTies();
        landRefused();
        Check.finish();
    }

    private static void newObject() {
        BoatRuns x = new BoatRuns();
        Check.same("1: values", Check.values(x), "4 0 0 0 0 0 0 0 0 0 -1 0");
        Check.same("1: nextThrown", x.nextThrown(), BoatRuns.NONE);
        Check.refused("1: undo", x, Check.STATE, x::undo);
        Check.refused("1: parcel", x, Check.INDEX, () -> x.parcel(0, 0));
        Check.refused("1: run", x, Check.ELEMENT, () -> x.run(0, 0));
        Check.same("1: clearText", x.clearText(), 0);
        Check.loadKeys(x, 1, 2, 3, 4);
        Check.same("1: a fifth parcel", x.load(5, 1), 0);
    }

    private static void begin() {
        BoatRuns x = new BoatRuns();
        Check.same("2: begin on a new object", x.begin(1), 0);
        Check.loadKeys(x, 3, 2, 1);
        x.storm(9);
        x.empty();
        x.mergeLightest();
        x.land(x.runAt(0));
        Check.same("2: begin after 3 parcels", x.begin(12), 3);
        Check.same("2: values", Check.values(x), "12 0 0 0 0 0 0 0 0 0 -1 0");
        Check.same("2: load", x.load(9, 9), BoatRuns.NONE);
        Check.same("2: parcel 0", Check.parcel(x, 0), "9 9 0 -1 -1");
        x.empty();
        Check.same("2: run 0", Check.run(x, 0), "1 9 5 9 9 0");
        Check.refused("2: begin(0)", x, Check.ARGUMENT, () -> x.begin(0));
        Check.refused("2: begin(13)", x, Check.ARGUMENT, () -> x.begin(13));
        Check.refused("2: begin(-1)", x, Check.ARGUMENT, () -> x.begin(-1));
        Check.refused("2: begin(MIN)", x, Check.ARGUMENT, () -> x.begin(Integer.MIN_VALUE));
        Check.refused("2: begin(MAX)", x, Check.ARGUMENT, () -> x.begin(Integer.MAX_VALUE));
    }

    private static void beginForgetsRunsAndCounts() {
        BoatRuns x = new BoatRuns();
        x.begin(1);
        Check.makeRun(x, 1, 10, 20, 30);
        x.storm(9);
        Check.loadKeys(x, 40, 50);
        x.tighten(0);
        x.merge(0, 1);
        x.tighten(0);
        Check.same("2: values before", Check.values(x), "1 1 5 2 4 0 3 1 1 1 2 3");
        x.begin(2);
        Check.same("2: values then", Check.values(x), "2 0 0 0 0 0 0 0 0 0 -1 0");
        Check.loadKeys(x, 60, 70);
        Check.same("2: no run is open", x.load(80, 1), 0);
        Check.same("2: a new float", Check.run(x, 0), "1 1 5 60 60 1");
    }

    private static void beginKeepsTextAndSavedStates() {
        BoatRuns x = new BoatRuns();
        x.load(7, 2);
        x.append('e');
        x.append(';');
        Check.same("2: begin", x.begin(2), 1);
        Check.same("2: the text stays", x.append('e'), 3);
        Check.same("2: undo", x.undo(), 1);
        Check.same("2: values then", Check.values(x), "4 1 1 0 0 0 0 0 0 0 -1 0");
        Check.same("2: undo again", x.undo(), 0);
        Check.same("2: clearText", x.clearText(), 3);
    }

    private static void loadThrowsTheLeastThatFits() {
        BoatRuns x = new BoatRuns();
        x.begin(2);
        Check.same("3: load 0", x.load(5, 10), BoatRuns.NONE);
        Check.same("3: load 1", x.load(3, 20), BoatRuns.NONE);
        Check.same("3: no run yet", x.value(3), 0);
        Check.same("3: load 2", x.load(4, 30), 0);
        Check.same("3: run 0", Check.run(x, 0), "1 20 5 3 3 1");
        Check.same("3: load 3", x.load(1, 40), 0);
        Check.same("3: run 0 again", Check.run(x, 0), "2 50 5 3 4 1");
        Check.same("3: load 4", x.load(9, 50), 0);
        Check.same("3: load 5", x.load(2, 1), 0);
        Check.same("3: load 6", x.load(7, 2), 1);
        Check.same("3: row 0", Check.row(x, 0), "1 2 0 4");
        Check.same("3: row 1", Check.row(x, 1), "3");
        Check.same("3: open run", x.value(10), 1);
        Check.same("3: run 0 closed", x.run(0, 5), 0);
        Check.same("3: values", Check.values(x), "2 2 7 2 5 0 0 0 0 0 1 2");
        BoatRuns one = new BoatRuns();
        one.begin(1);
        one.load(5, 1);
        Check.same("3: the new parcel comes in later", one.load(3, 1), 0);
        Check.same("3: parcel 0 is thrown", Check.row(one, 0), "0");
        Check.same("3: parcel 1 is in the boat", one.parcel(1, 2), 0);
    }

    private static void loadKeepsTiesAsTheyCame() {
        BoatRuns x = new BoatRuns();
        x.begin(2);
        Check.loadKeys(x, 5, 5, 5, 5, 4, 5);
        Check.same("3: equal keys, row 0", Check.row(x, 0), "0 1 2 3");
        Check.same("3: one run", x.value(3), 1);
        Check.same("3: a lesser key", x.load(5, 1), 0);
        Check.same("3: row 0 then", Check.row(x, 0), "0 1 2 3 5");
        Check.same("3: and the next", x.load(4, 1), 0);
        Check.same("3: and the last", x.load(4, 1), 1);
        Check.same("3: row 0 at last", Check.row(x, 0), "0 1 2 3 5 6");
        Check.same("3: row 1", Check.row(x, 1), "4");
    }

    private static void loadEdges() {
        BoatRuns x = new BoatRuns();
        x.load(0, 1);
        x.load(999, 50);
        Check.same("3: parcel 0", Check.parcel(x, 0), "0 1 0 -1 -1");
        Check.same("3: parcel 1", Check.parcel(x, 1), "999 50 0 -1 -1");
        Check.refused("3: load(-1, 1)", x, Check.ARGUMENT, () -> x.load(-1, 1));
        Check.refused("3: load(1000, 1)", x, Check.ARGUMENT, () -> x.load(1000, 1));
        Check.refused("3: load(1, 0)", x, Check.ARGUMENT, () -> x.load(1, 0));
        Check.refused("3: load(1, 51)", x, Check.ARGUMENT, () -> x.load(1, 51));
        Check.refused("3: load(MAX, MIN)", x, Check.ARGUMENT,
                () -> x.load(Integer.MAX_VALUE, Integer.MIN_VALUE));
        Check.same("3: undoable", x.undo(), 1);
        Check.same("3: one parcel then", x.value(2), 1);
    }

    private static void loadLimit() {
        BoatRuns x = new BoatRuns();
        x.begin(12);
        for (int i = 0; i < 119; i++) {
            x.load(i * 37 % 1000, 1 + i % 50);
        }
        Check.same("3: 119 parcels", x.value(2), 119);
        x.load(999, 50);
        Check.same("3: 120 parcels", x.value(2), 120);
        Check.refused("3: one more", x, Check.STATE, () -> x.load(1, 1));
        Check.refused("3: the first exception", x, Check.ARGUMENT, () -> x.load(1000, 1));
        Check.refused("3: the first exception, weight", x, Check.ARGUMENT, () -> x.load(1, 0));
        x.begin(3);
        Check.same("3: room again", x.load(1, 1), BoatRuns.NONE);
    }

    private static void loadDrawn() {
        BoatRuns x = new BoatRuns();
        Check.same("4: loadDrawn", x.loadDrawn(1, 6, 1000), 6);
        int[] keys = {838, 758, 113, 515, 51, 627};
        for (int p = 0; p < keys.length; p++) {
            Check.same("4: key " + p, x.parcel(p, 0), keys[p]);
        }
        Check.same("4: weight 0", x.parcel(0, 1), 14);
        Check.same("4: they are loaded as by load", Check.row(x, 0), "2 3");
        Check.same("4: values", Check.values(x), "4 4 6 1 2 0 0 0 0 0 0 1");
        Check.same("4: seed 0", x.loadDrawn(0, 1, 7), 1);
        Check.same("4: parcel of seed 0", Check.parcel(x, 6), "0 13 0 -1 -1");
        Check.same("4: range 1", x.loadDrawn(999999, 3, 1), 3);
        Check.same("4: key of range 1", x.parcel(9, 0), 0);
        Check.same("4: one saved state each", x.undo(), 2);
        Check.same("4: undo", x.value(2), 7);
        drawnAsBigNumbers(999999, 60, 1000);
        drawnAsBigNumbers(123456, 60, 17);
    }

    private static void drawnAsBigNumbers(int seed, int parcels, int range) {
        BoatRuns x = new BoatRuns();
        x.loadDrawn(seed, parcels, range);
        java.math.BigInteger drawn = java.math.BigInteger.valueOf(seed);
        for (int p = 0; p < parcels; p++) {
            drawn = drawn.multiply(java.math.BigInteger.valueOf(1103515245))
                    .add(java.math.BigInteger.valueOf(12345)).mod(java.math.BigInteger.ONE.shiftLeft(31));
            long value = drawn.longValue();
            Check.same("4: key " + p + " of " + seed, x.parcel(p, 0), value / 65536 % range);
            Check.same("4: weight " + p + " of " + seed, x.parcel(p, 1), value / 1024 % 50 + 1);
        }
    }

    private static void loadDrawnLimit() {
        BoatRuns x = new BoatRuns();
        Check.same("4: 60", x.loadDrawn(5, 60, 1000), 60);
        Check.same("4: 50 more", x.loadDrawn(6, 50, 1000), 50);
        Check.same("4: up to the limit", x.loadDrawn(7, 60, 1000), 10);
        Check.same("4: parcels then", x.value(2), 120);
        Check.same("4: none at the limit", x.loadDrawn(8, 1, 1), 0);
        Check.same("4: undoable all the same", x.undo(), 3);
        Check.same("4: nothing has changed", x.value(2), 120);
        x.undo();
        Check.same("4: before the third call", x.value(2), 110);
    }

    private static void loadDrawnEdges() {
        BoatRuns x = new BoatRuns();
        Check.same("4: highest arguments", x.loadDrawn(999999, 60, 1000), 60);
        Check.refused("4: seed -1", x, Check.ARGUMENT, () -> x.loadDrawn(-1, 1, 1));
        Check.refused("4: seed 1000000", x, Check.ARGUMENT, () -> x.loadDrawn(1000000, 1, 1));
        Check.refused("4: parcels 0", x, Check.ARGUMENT, () -> x.loadDrawn(0, 0, 1));
        Check.refused("4: parcels 61", x, Check.ARGUMENT, () -> x.loadDrawn(0, 61, 1));
        Check.refused("4: range 0", x, Check.ARGUMENT, () -> x.loadDrawn(0, 1, 0));
        Check.refused("4: range 1001", x, Check.ARGUMENT, () -> x.loadDrawn(0, 1, 1001));
        Check.refused("4: range MIN", x, Check.ARGUMENT, () -> x.loadDrawn(0, 1, Integer.MIN_VALUE));
        x.loadDrawn(1, 60, 10);
        Check.refused("4: range 0 with 120 parcels", x, Check.ARGUMENT, () -> x.loadDrawn(0, 1, 0));
    }

    private static void empty() {
        BoatRuns x = new BoatRuns();
        Check.same("5: nothing there", x.empty(), 0);
        Check.loadKeys(x, 50, 20, 70);
        Check.same("5: one run", x.empty(), 1);
        Check.same("5: its row", Check.row(x, 0), "1 0 2");
        Check.same("5: values", Check.values(x), "4 0 3 1 3 0 0 0 0 0 -1 1");
        x.load(80, 1);
        Check.same("5: no run was open", x.empty(), 2);
        Check.same("5: its row", Check.row(x, 1), "3");
        Check.same("5: nothing to throw", x.empty(), 2);
        Check.same("5: undoable", x.undo(), 3);
        Check.same("5: saved though nothing changed", x.value(3), 2);
        x.undo();
        Check.same("5: one run and a parcel", Check.values(x), "4 1 4 1 3 0 0 0 0 0 -1 1");
    }

    private static void emptyMakesTwoRuns() {
        BoatRuns x = new BoatRuns();
        x.begin(3);
        Check.loadKeys(x, 10, 30, 20, 5);
        Check.same("5: row 0 before", Check.row(x, 0), "0");
        Check.same("5: open", x.value(10), 0);
        Check.same("5: two runs", x.empty(), 2);
        Check.same("5: row 0", Check.row(x, 0), "0 2 1");
        Check.same("5: row 1", Check.row(x, 1), "3");
        Check.same("5: none open", x.value(10), BoatRuns.NONE);
    }

    private static void merge() {
        BoatRuns x = new BoatRuns();
        Check.makeRun(x, 3, 10, 30);
        Check.makeRun(x, 4, 20, 30, 40);
        Check.makeRun(x, 5, 1);
        Check.same("6: cost", x.merge(1, 0), 18);
        Check.same("6: row", Check.row(x, 0), "0 2 1 3 4");
        Check.same("6: runs", Check.runs(x), "0 2");
        Check.same("6: run 0", Check.run(x, 0), "5 18 5 10 40 0");
        Check.same("6: parcel 3", Check.parcel(x, 3), "30 4 1 0 3");
        Check.same("6: cost again", x.merge(0, 2), 23);
        Check.same("6: values", Check.values(x), "4 0 6 1 6 0 41 2 0 0 -1 3");
        Check.same("6: undoable", x.undo(), 3);
        Check.same("6: values before", Check.values(x), "4 0 6 2 6 0 18 1 0 0 -1 3");
        Check.same("6: a new float has a new number", newRun(x), 3);
    }

    private static int newRun(BoatRuns x) {
        Check.makeRun(x, 1, 500);
        return x.runAt(x.value(3) - 1);
    }

    private static void mergeTakesTheLowerFloat() {
        BoatRuns x = new BoatRuns();
        Check.makeRun(x, 3, 10);
        Check.makeRun(x, 4, 20);
        x.tighten(0);
        x.tighten(1);
        x.tighten(1);
        x.merge(1, 0);
        Check.same("6: strength of the lower float", x.run(0, 2), 6);
        Check.refused("6: the other float is gone", x, Check.ELEMENT, () -> x.run(1, 0));
        Check.makeRun(x, 1, 30);
        x.tighten(2);
        x.tighten(2);
        Check.makeRun(x, 1, 40);
        x.merge(0, 2);
        Check.same("6: other floats keep their strength", strengths(x), "6 5");
    }

    private static void mergeClosesOnlyItsOwnRuns() {
        BoatRuns x = withRunTwoOpen();
        x.merge(0, 1);
        Check.same("6: another run stays open", x.value(10), 2);
        Check.same("6: the next parcel's run", x.load(95, 1), 2);
        x = withRunTwoOpen();
        x.merge(1, 2);
        Check.same("6: the second was open", x.value(10), BoatRuns.NONE);
        Check.same("6: the next parcel's run", x.load(95, 1), 3);
        x = withRunTwoOpen();
        x.merge(2, 1);
        Check.same("6: the first was open", x.value(10), BoatRuns.NONE);
    }

    private static BoatRuns withRunTwoOpen() {
        BoatRuns x = new BoatRuns();
        Check.makeRun(x, 1, 10);
        Check.makeRun(x, 1, 20);
        Check.loadKeys(x, 50, 60, 70, 80, 90);
        Check.same("6: run 2 is open", x.value(10), 2);
        return x;
    }

    private static void mergeRefused() {
        BoatRuns x = new BoatRuns();
        Check.refused("6: no runs", x, Check.ELEMENT, () -> x.merge(0, 1));
        Check.refused("6: no runs, the same", x, Check.ELEMENT, () -> x.merge(0, 0));
        Check.makeRun(x, 1, 1);
        Check.makeRun(x, 1, 2);
        Check.refused("6: first", x, Check.ELEMENT, () -> x.merge(2, 0));
        Check.refused("6: second", x, Check.ELEMENT, () -> x.merge(0, 2));
        Check.refused("6: -1", x, Check.ELEMENT, () -> x.merge(-1, 0));
        Check.refused("6: -2", x, Check.ELEMENT, () -> x.merge(-2, -2));
        Check.refused("6: the same", x, Check.ARGUMENT, () -> x.merge(1, 1));
        Check.refused("6: MAX", x, Check.ELEMENT, () -> x.merge(0, Integer.MAX_VALUE));
    }

    private static void mergeLightest() {
        BoatRuns x = new BoatRuns();
        Check.refused("7: no runs", x, Check.STATE, x::mergeLightest);
        Check.makeRun(x, 20, 1);
        Check.refused("7: one run", x, Check.STATE, x::mergeLightest);
        Check.makeRun(x, 10, 2);
        Check.makeRun(x, 30, 3);
        Check.makeRun(x, 15, 4);
        Check.same("7: 1 and 3", x.mergeLightest(), 1);
        Check.same("7: runs", Check.runs(x), "0 1 2");
        Check.same("7: run 1", Check.run(x, 1), "2 25 5 2 4 0");
        Check.same("7: 0 and 1", x.mergeLightest(), 0);
        Check.same("7: 0 and 2", x.mergeLightest(), 0);
        Check.same("7: values", Check.values(x), "4 0 4 1 4 0 145 3 0 0 -1 4");
        Check.refused("7: one run is left", x, Check.STATE, x::mergeLightest);
        Check.same("7: undoable", x.undo(), 3);
        Check.same("7: before the last one", Check.runs(x), "0 2");
    }

    private static void mergeLightestTies() {
        BoatRuns x = new BoatRuns();
        Check.makeRun(x, 9, 1);
        Check.makeRun(x, 5, 2);
        Check.makeRun(x, 9, 3);
        Check.makeRun(x, 5, 4);
        Check.makeRun(x, 5, 5);
        Check.same("7: the lowest numbers of three", x.mergeLightest(), 1);
        Check.same("7: runs", Check.runs(x), "0 1 2 4");
        Check.same("7: the second by number", x.mergeLightest(), 0);
        Check.same("7: runs then", Check.runs(x), "0 1 2");
        BoatRuns open = new BoatRuns();
        open.begin(1);
        Check.makeRun(open, 9, 1);
        Check.loadKeys(open, 5, 6);
        Check.same("7: one is open", open.value(10), 1);
        open.mergeLightest();
        Check.same("7: none is open", open.value(10), BoatRuns.NONE);
    }

    private static void storm() {
        BoatRuns x = new BoatRuns();
        x.begin(6);
        for (int key = 10; key <= 50; key += 10) {
            x.load(key, key);
        }
        x.empty();
        Check.same("8: one breaks", x.storm(9), 1);
        Check.same("8: row 0", Check.row(x, 0), "0 1 2");
        Check.same("8: row 1", Check.row(x, 1), "3 4");
        Check.same("8: run 0", Check.run(x, 0), "3 60 4 10 30 0");
        Check.same("8: run 1", Check.run(x, 1), "2 90 5 40 50 0");
        Check.same("8: values", Check.values(x), "6 0 5 2 5 0 0 0 1 1 -1 2");
        Check.same("8: both break", x.storm(9), 2);
        Check.same("8: runs", Check.runs(x), "0 1 2 3");
        Check.same("8: strengths", strengths(x), "3 4 5 5");
        Check.same("8: rows", Check.row(x, 0) + "/" + Check.row(x, 1) + "/" + Check.row(x, 2) + "/"
                + Check.row(x, 3), "0 1/3/2/4");
        Check.same("8: only one has two parcels", x.storm(9), 1);
        Check.same("8: strengths then", strengths(x), "2 3 4 4 5");
        Check.same("8: broken so far", x.value(9), 4);
        Check.same("8: none can break", x.storm(9), 0);
        Check.same("8: storms so far", x.value(8), 4);
        Check.same("8: undoable", x.undo(), 3);
        Check.same("8: strengths before", strengths(x), "2 3 4 4 5");
    }

    private static String strengths(BoatRuns x) {
        StringBuilder all = new StringBuilder();
        for (int i = 0; i < x.value(3); i++) {
            all.append(i == 0 ? "" : " ").append(x.run(x.runAt(i), 2));
        }
        return all.toString();
    }

    private static void stormForceAndStrength() {
        BoatRuns x = new BoatRuns();
        Check.makeRun(x, 1, 10, 20, 30);
        Check.same("8: strength 5, force 5", x.storm(5), 0);
        Check.same("8: it falls all the same", x.run(0, 2), 4);
        Check.same("8: strength 4, force 4", x.storm(4), 0);
        Check.same("8: strength 3, force 4", x.storm(4), 1);
        Check.same("8: strength 2, force 1", x.storm(1), 0);
        Check.same("8: strength 1, force 1", x.storm(1), 0);
        Check.same("8: strengths then", strengths(x), "0 3");
        Check.same("8: strength 0, force 1", x.storm(1), 1);
        Check.same("8: not below 0, and 5 at first", strengths(x), "0 2 5");
    }

    private static void stormNumbersNewFloatsInOrder() {
        BoatRuns x = new BoatRuns();
        Check.makeRun(x, 1, 10, 11);
        Check.makeRun(x, 1, 20);
        Check.makeRun(x, 1, 30, 31, 32, 33);
        Check.makeRun(x, 1, 40, 41);
        x.tighten(3);
        Check.same("8: two break", x.storm(6), 2);
        Check.same("8: rows", Check.row(x, 0) + "/" + Check.row(x, 1) + "/" + Check.row(x, 2) + "/"
                + Check.row(x, 3) + "/" + Check.row(x, 4) + "/" + Check.row(x, 5), "0/2/3 4/7 8/1/5 6");
        Check.same("8: strengths", strengths(x), "4 4 4 5 5 5");
        Check.same("8: floats used", x.value(11), 6);
    }

    private static void stormEdges() {
        BoatRuns x = new BoatRuns();
        Check.same("8: no runs", x.storm(1), 0);
        Check.same("8: it counts", x.value(8), 1);
        x.begin(1);
        Check.loadKeys(x, 5, 6);
        Check.same("8: a run is open", x.value(10), 0);
        Check.same("8: none breaks", x.storm(1), 0);
        Check.same("8: no run is open", x.value(10), BoatRuns.NONE);
        Check.same("8: the next parcel's run", x.load(7, 1), 1);
        Check.refused("8: force 0", x, Check.ARGUMENT, () -> x.storm(0));
        Check.refused("8: force 10", x, Check.ARGUMENT, () -> x.storm(10));
        Check.refused("8: force MIN", x, Check.ARGUMENT, () -> x.storm(Integer.MIN_VALUE));
    }

    private static void tighten() {
        BoatRuns x = new BoatRuns();
        Check.refused("9: no runs", x, Check.ELEMENT, () -> x.tighten(0));
        Check.makeRun(x, 1, 5);
        Check.makeRun(x, 1, 6);
        for (int strength = 6; strength <= 9; strength++) {
            Check.same("9: tighten", x.tighten(1), strength);
        }
        Check.same("9: not above 9", x.tighten(1), 9);
        Check.same("9: undoable without a change", x.undo(), 3);
        Check.same("9: still 9", x.run(1, 2), 9);
        x.undo();
        Check.same("9: 8 before", x.run(1, 2), 8);
        Check.same("9: the other one stays", x.run(0, 2), 5);
        Check.refused("9: no such run", x, Check.ELEMENT, () -> x.tighten(2));
        Check.refused("9: -1", x, Check.ELEMENT, () -> x.tighten(-1));
        Check.refused("9: -2", x, Check.ELEMENT, () -> x.tighten(-2));
    }

    private static void land() {
        BoatRuns x = new BoatRuns();
        Check.makeRun(x, 1, 30, 40);
        Check.makeRun(x, 2, 10, 20, 25);
        Check.makeRun(x, 3, 35, 60);
        Check.makeRun(x, 4, 50);
        x.tighten(1);
        x.tighten(3);
        x.tighten(3);
        Check.same("10: any run is the first", x.land(1), 3);
        Check.same("10: other floats keep their strength", strengths(x), "5 5 7");
        Check.same("10: ashore", Check.shore(x), "2 3 4");
        Check.same("10: runs", Check.runs(x), "0 2 3");
        Check.same("10: a parcel ashore", Check.parcel(x, 3), "20 2 2 -1 1");
        Check.same("10: the next one", x.land(0), 5);
        Check.refused("10: it begins too low", x, Check.STATE, () -> x.land(2));
        Check.refused("10: its float is gone", x, Check.ELEMENT, () -> x.land(0));
        Check.same("10: another one", x.land(3), 6);
        Check.same("10: values", Check.values(x), "4 0 8 1 2 6 0 0 0 0 -1 4");
        Check.same("10: undoable", x.undo(), 3);
        Check.same("10: ashore before", Check.shore(x), "2 3 4 0 1");
        Check.makeRun(x, 1, 70);
        Check.same("10: numbers are not used again", Check.runs(x), "2 3 4");
    }

    private static void landClosesTheOpenRun() {
        BoatRuns x = new BoatRuns();
        x.begin(1);
        Check.makeRun(x, 1, 5);
        Check.loadKeys(x, 7, 8);
        Check.same("10: open", x.value(10), 1);
        x.land(0);
        Check.same("10: another run stays open", x.value(10), 1);
        x.land(1);
        Check.same("10: none is open", x.value(10), BoatRuns.NONE);
        Check.same("10: the next parcel's run", x.load(9, 1), 2);
    }

    private static void landTies() {
        BoatRuns x = new BoatRuns();
        Check.makeRun(x, 1, 5);
        Check.makeRun(x, 1, 5);
        Check.makeRun(x, 1, 5);
        x.land(1);
        Check.refused("10: equal key, lower number", x, Check.STATE, () -> x.land(0));
        Check.same("10: equal key, higher number", x.land(2), 2);
        Check.same("10: ashore", Check.shore(x), "1 2");
    }

    private static void landRefused() {
        BoatRuns x = new BoatRuns();
        Check.refused("10: no runs", x, Check.ELEMENT, () -> x.land(0));
        Check.makeRun(x, 1, 5);
        Check.refused("10: no such run", x, Check.ELEMENT, () -> x.land(1));
        Check.refused("10: -1", x, Check.ELEMENT, () -> x.land(-1));
        x.land(0);
        Check.refused("10: -2", x, Check.ELEMENT, () -> x.land(-2));
    }
}
