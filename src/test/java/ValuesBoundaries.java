/** Boundaries of promises 11 to 16. */
final class ValuesBoundaries {
    private ValuesBoundaries() {
    }

    static void check() {
        someParcel();
        factsOfParcels();
        noSuchParcel();
        factsBeyondThoseOfParcels();
        someRun();
        factsOfRuns();
        noSuchRun();
        factsBeyondThoseOfRuns();
        placesInRuns();
        noSuchRunToLookInto();
        placesBeyondTheRun();
        placesAshore();
        placesBeyondTheShore();
        indexesOfRuns();
        indexesBeyondTheRuns();
        numbersAtFirst();
        numbersOneByOne();
        numbersOfMany();
        numbersBeyond();
        Doc.noBoundary(11, "Returns something about a parcel.", "Returns that value.");
        Doc.noBoundary(12, "Returns something about a run.", "Returns that value.");
        Doc.noBoundary(13, "Returns a parcel of a run.", "Returns the number of the parcel.");
        Doc.noBoundary(14, "Returns a parcel ashore.", "Returns its number.");
        Doc.noBoundary(15, "Returns the number of a run.", "Returns the number.");
        Doc.noBoundary(16, "Returns a number.", "Returns that number.");
    }

    // ---- promise 11

    private static void someParcel() {
        Doc.promise(11, "`parcel`: its number");
        BoatRuns x = Check.busy();
        Check.same("the first one", x.parcel(0, 0), 30);
        Check.same("the last one", x.parcel(7, 0), 85);
        BoatRuns all = Check.loaded(119);
        all.load(77, 1);
        Check.same("the last one of 120", all.parcel(119, 0), 77);
    }

    private static void factsOfParcels() {
        Doc.promise(11, "`what`: 0 its key, 1 its weight, 2 where it is: 0 in the boat, 1 in a run, 2 ashore, 3 the number "
                + "of its run (NONE if it is in none), 4 its place in its run or ashore, from 0 (NONE in the boat)");
        BoatRuns x = Check.busy();
        Check.same("ashore, the last one", Check.parcel(x, 0), "30 7 2 -1 1");
        Check.same("ashore, the first one", Check.parcel(x, 1), "10 8 2 -1 0");
        Check.same("in a closed run, the last one", Check.parcel(x, 2), "60 1 1 1 1");
        Check.same("in a closed run, the first one", Check.parcel(x, 3), "50 2 1 1 0");
        Check.same("in the open run, the last one", Check.parcel(x, 4), "80 3 1 2 1");
        Check.same("in the open run, the first one", Check.parcel(x, 5), "40 4 1 2 0");
        Check.same("in the boat", Check.parcel(x, 6), "90 5 0 -1 -1");
        Check.same("in the boat, the last one", Check.parcel(x, 7), "85 6 0 -1 -1");
        x.merge(1, 2);
        Check.same("in the merged run, the first one", Check.parcel(x, 5), "40 4 1 1 0");
        Check.same("in the merged run, the last one", Check.parcel(x, 4), "80 3 1 1 3");
        x.storm(9);
        Check.same("in the run that stays, the last one", Check.parcel(x, 3), "50 2 1 1 1");
        Check.same("in the new run, the first one", Check.parcel(x, 2), "60 1 1 3 0");
        BoatRuns zero = new BoatRuns();
        Check.makeRun(zero, 1, 0);
        Check.same("key 0, run 0, place 0", Check.parcel(zero, 0), "0 1 1 0 0");
        BoatRuns long120 = new BoatRuns();
        long120.begin(1);
        for (int i = 0; i < 120; i++) {
            long120.load(i, 50);
        }
        long120.empty();
        Check.same("the last of 120", Check.parcel(long120, 119), "119 50 1 0 119");
        long120.land(0);
        Check.same("the last of 120 ashore", Check.parcel(long120, 119), "119 50 2 -1 119");
    }

    private static void noSuchParcel() {
        Doc.promise(11, "Throws `IndexOutOfBoundsException` if no such parcel was loaded");
        Check.range(Check::busy, 0, 7, Check.INDEX, (x, parcel) -> x.parcel(parcel, 0));
        Check.range(() -> Check.loaded(1), 0, 0, Check.INDEX, (x, parcel) -> x.parcel(parcel, 4));
        Check.range(() -> Check.loaded(120), 0, 119, Check.INDEX, (x, parcel) -> x.parcel(parcel, 4));
        for (int parcel : new int[] {-1, 0, 1}) {
            Check.refusedOn("nothing is loaded, " + parcel, BoatRuns::new, Check.INDEX, x -> x.parcel(parcel, 0));
        }
        for (int what : new int[] {-1, 5}) {
            Check.refusedOn("parcel 8, what " + what, Check::busy, Check.INDEX, x -> x.parcel(8, what));
            Check.refusedOn("parcel -1, what " + what, Check::busy, Check.INDEX, x -> x.parcel(-1, what));
        }
        BoatRuns begun = Check.busy();
        begun.begin(4);
        Check.refused("one of the boat before", begun, Check.INDEX, () -> begun.parcel(0, 0));
        BoatRuns undone = Check.busy();
        undone.undo();
        Check.refused("one that is undone", undone, Check.INDEX, () -> undone.parcel(7, 0));
        Check.same("the one before", undone.parcel(6, 0), 90);
    }

    private static void factsBeyondThoseOfParcels() {
        Doc.promise(11, "Throws `IllegalArgumentException` if what is out of range");
        for (int parcel : new int[] {0, 2, 5, 7}) {
            Check.range(Check::busy, 0, 4, Check.ARGUMENT, (x, what) -> x.parcel(parcel, what));
        }
    }

    // ---- promise 12

    private static void someRun() {
        Doc.promise(12, "`run`: its number");
        BoatRuns x = Check.busy();
        Check.same("the lowest one", x.run(1, 1), 3);
        Check.same("the highest one", x.run(2, 1), 7);
    }

    private static void factsOfRuns() {
        Doc.promise(12, "`what`: 0 its parcels, 1 its weight, 2 the strength of its float, 3 the key of its first parcel, "
                + "4 the key of its last one, 5 1 if it is open, otherwise 0");
        BoatRuns x = Check.busy();
        x.tighten(1);
        Check.same("a closed run", Check.run(x, 1), "2 3 6 50 60 0");
        Check.same("the open run", Check.run(x, 2), "2 7 5 40 80 1");
        BoatRuns one = new BoatRuns();
        Check.makeRun(one, 1, 0);
        Check.same("a run of one parcel, the least", Check.run(one, 0), "1 1 5 0 0 0");
        BoatRuns all = new BoatRuns();
        all.begin(1);
        for (int i = 0; i < 120; i++) {
            all.load(880 + i, 50);
        }
        Check.same("a run of 119 parcels", Check.run(all, 0), "119 5950 5 880 998 1");
        all.empty();
        Check.same("a run of 120 parcels", Check.run(all, 0), "120 6000 5 880 999 0");
    }

    private static void noSuchRun() {
        Doc.promise(12, "Throws `NoSuchElementException` if there is no such run");
        Check.range(Check::busy, 1, 2, Check.ELEMENT, (x, run) -> x.run(run, 0));
        for (int what : new int[] {-1, 6}) {
            Check.refusedOn("run 0, what " + what, Check::busy, Check.ELEMENT, x -> x.run(0, what));
            Check.refusedOn("run 3, what " + what, Check::busy, Check.ELEMENT, x -> x.run(3, what));
        }
        for (int run : new int[] {-2, -1, 0, 1}) {
            Check.refusedOn("no runs, " + run, BoatRuns::new, Check.ELEMENT, x -> x.run(run, 5));
        }
    }

    private static void factsBeyondThoseOfRuns() {
        Doc.promise(12, "Throws `IllegalArgumentException` if what is out of range");
        for (int run : new int[] {1, 2}) {
            Check.range(Check::busy, 0, 5, Check.ARGUMENT, (x, what) -> x.run(run, what));
        }
    }

    // ---- promises 13 and 14

    private static void placesInRuns() {
        Doc.noBoundary(13, "`run`: its number");
        Doc.promise(13, "`place`: 0 for the first one, and so on");
        BoatRuns x = Check.busy();
        Check.same("the first one", x.inRun(1, 0), 3);
        Check.same("the last one", x.inRun(1, 1), 2);
        Check.same("the first one of the open run", x.inRun(2, 0), 5);
        Check.same("the last one of the open run", x.inRun(2, 1), 4);
        BoatRuns one = new BoatRuns();
        Check.makeRun(one, 1, 7);
        Check.same("the only one", one.inRun(0, 0), 0);
    }

    private static void noSuchRunToLookInto() {
        Doc.promise(13, "Throws `NoSuchElementException` if there is no such run");
        Check.range(Check::busy, 1, 2, Check.ELEMENT, (x, run) -> x.inRun(run, 0));
        for (int place : new int[] {-1, 0, 2, Integer.MAX_VALUE}) {
            Check.refusedOn("the one ashore, place " + place, Check::busy, Check.ELEMENT, x -> x.inRun(0, place));
            Check.refusedOn("run -1, place " + place, Check::busy, Check.ELEMENT, x -> x.inRun(-1, place));
            Check.refusedOn("run -2, place " + place, Check::busy, Check.ELEMENT, x -> x.inRun(-2, place));
            Check.refusedOn("no runs, place " + place, BoatRuns::new, Check.ELEMENT, x -> x.inRun(0, place));
        }
    }

    private static void placesBeyondTheRun() {
        Doc.promise(13, "Throws `IndexOutOfBoundsException` if it has not so many");
        Check.range(Check::busy, 0, 1, Check.INDEX, (x, place) -> x.inRun(1, place));
        Check.range(Check::busy, 0, 1, Check.INDEX, (x, place) -> x.inRun(2, place));
        Check.range(() -> {
            BoatRuns x = new BoatRuns();
            x.begin(1);
            for (int i = 0; i < 120; i++) {
                x.load(i, 1);
            }
            x.empty();
            return x;
        }, 0, 119, Check.INDEX, (x, place) -> x.inRun(0, place));
    }

    private static void placesAshore() {
        Doc.promise(14, "`place`: 0 for the first one, and so on");
        BoatRuns x = Check.busy();
        Check.same("the first one", x.ashore(0), 1);
        Check.same("the last one", x.ashore(1), 0);
        x.land(1);
        Check.same("the last one of another run", x.ashore(3), 2);
    }

    private static void placesBeyondTheShore() {
        Doc.promise(14, "Throws `IndexOutOfBoundsException` if there are not so many");
        Check.range(Check::busy, 0, 1, Check.INDEX, BoatRuns::ashore);
        for (int place : new int[] {-1, 0, 1}) {
            Check.refusedOn("nothing ashore, " + place, BoatRuns::new, Check.INDEX, x -> x.ashore(place));
            Check.refusedOn("all are in the boat and in runs, " + place, () -> Check.loaded(9), Check.INDEX,
                    x -> x.ashore(place));
        }
        Check.range(() -> {
            BoatRuns x = new BoatRuns();
            x.begin(1);
            for (int i = 0; i < 120; i++) {
                x.load(i, 1);
            }
            x.empty();
            x.land(0);
            return x;
        }, 0, 119, Check.INDEX, BoatRuns::ashore);
    }

    // ---- promises 15 and 16

    private static void indexesOfRuns() {
        Doc.promise(15, "`index`: 0 for the run with the lowest number, and so on");
        BoatRuns x = Check.busy();
        Check.same("the lowest one", x.runAt(0), 1);
        Check.same("the highest one", x.runAt(1), 2);
        x.storm(9);
        Check.same("with two new ones", Check.runs(x), "1 2 3 4");
        x.merge(1, 3);
        x.merge(4, 2);
        Check.same("without two", Check.runs(x), "1 2");
        Check.makeRun(x, 1, 5);
        Check.same("with others", Check.runs(x), "1 2 5 6");
    }

    private static void indexesBeyondTheRuns() {
        Doc.promise(15, "Throws `IndexOutOfBoundsException` if there are not so many runs");
        Check.range(Check::busy, 0, 1, Check.INDEX, BoatRuns::runAt);
        for (int index : new int[] {-1, 0, 1}) {
            Check.refusedOn("no runs, " + index, BoatRuns::new, Check.INDEX, x -> x.runAt(index));
        }
        Check.range(() -> {
            BoatRuns x = new BoatRuns();
            x.begin(1);
            for (int i = 0; i < 120; i++) {
                x.load(200 - i, 1);
            }
            x.empty();
            return x;
        }, 0, 119, Check.INDEX, BoatRuns::runAt);
    }

    private static void numbersAtFirst() {
        Doc.promise(16, "`what`: 0 the room of the boat, 1 the parcels in it, 2 the parcels loaded so far, 3 the runs, 4 the "
                + "parcels in them, 5 the parcels ashore, 6 the sum of the costs of all merges so far, 7 the merges so "
                + "far, 8 the storms so far, 9 the runs broken so far, 10 the number of the open run (NONE if none is "
                + "open), 11 the floats used so far");
        Check.same("at first", Check.values(new BoatRuns()), "4 0 0 0 0 0 0 0 0 0 -1 0");
    }

    private static void numbersOneByOne() {
        BoatRuns x = new BoatRuns();
        x.begin(2);
        Check.same("the room", Check.values(x), "2 0 0 0 0 0 0 0 0 0 -1 0");
        x.load(10, 3);
        x.load(20, 4);
        Check.same("two loads", Check.values(x), "2 2 2 0 0 0 0 0 0 0 -1 0");
        x.load(30, 5);
        Check.same("one is overboard", Check.values(x), "2 2 3 1 1 0 0 0 0 0 0 1");
        x.empty();
        Check.same("all are", Check.values(x), "2 0 3 1 3 0 0 0 0 0 -1 1");
        x.storm(5);
        Check.same("a storm", Check.values(x), "2 0 3 1 3 0 0 0 1 0 -1 1");
        x.storm(5);
        Check.same("a storm that breaks", Check.values(x), "2 0 3 2 3 0 0 0 2 1 -1 2");
        x.merge(0, 1);
        Check.same("a merge", Check.values(x), "2 0 3 1 3 0 12 1 2 1 -1 2");
        x.storm(9);
        x.mergeLightest();
        Check.same("another one", Check.values(x), "2 0 3 1 3 0 24 2 3 2 -1 3");
        x.land(0);
        Check.same("ashore", Check.values(x), "2 0 3 0 0 3 24 2 3 2 -1 3");
        x.load(40, 1);
        x.load(41, 1);
        x.load(42, 1);
        Check.same("and again", Check.values(x), "2 2 6 1 1 3 24 2 3 2 3 4");
        x.costByWeight();
        x.costByNumber();
        x.runsIfEmptied();
        x.runsWith(1);
        Check.same("what-if questions don't count", Check.values(x), "2 2 6 1 1 3 24 2 3 2 3 4");
    }

    private static void numbersOfMany() {
        BoatRuns x = new BoatRuns();
        x.begin(12);
        for (int i = 0; i < 120; i++) {
            x.load(500 - i, 50);
        }
        Check.same("a full boat", Check.values(x), "12 12 120 9 108 0 0 0 0 0 8 9");
        x.empty();
        while (x.value(3) > 1) {
            x.mergeLightest();
        }
        Check.same("120 parcels in a run", Check.values(x), "12 0 120 1 120 0 20400 9 0 0 -1 10");
        x.land(0);
        Check.same("120 parcels ashore", Check.values(x), "12 0 120 0 0 120 20400 9 0 0 -1 10");
    }

    private static void numbersBeyond() {
        Doc.promise(16, "Throws `IllegalArgumentException` if what is out of range");
        Check.range(Check::busy, 0, 11, Check.ARGUMENT, BoatRuns::value);
        Check.range(BoatRuns::new, 0, 11, Check.ARGUMENT, BoatRuns::value);
    }
}
