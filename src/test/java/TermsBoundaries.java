/** Boundaries of "What it is" and of the terms on parcels, boat, runs, storms and the shore. */
final class TermsBoundaries {
    private TermsBoundaries() {
    }

    static void check() {
        whatItIs();
        tiesStayAsTheyCame();
        division();
        theLastCall();
        theLastOfManyFloats();
        none();
        mostParcels();
        mostParcelsByOtherCalls();
        keysAndWeights();
        less();
        room();
        eachParcelIsLessThanTheNext();
        floatNumbers();
        floatNumbersAreNotUsedAgain();
        strengths();
        weights();
        oneOpenRun();
        throwingToTheOpenRun();
        throwingTheLeastThatFits();
        throwingWithoutAnOpenRun();
        loadingIntoAFullBoat();
        merging();
        mergingManyAndFew();
        cost();
        mergingTheOpenRun();
        twoLightest();
        forces();
        whichRunsBreak();
        whereRunsBreak();
        inWhichOrderRunsBreak();
        strengthsFall();
        noRunIsOpenAfterAStorm();
        canBeBroughtAshore();
        tiesAshore();
        parcelsAshore();
        theOpenRunAshore();
    }

    private static BoatRuns boat(int room) {
        BoatRuns x = new BoatRuns();
        x.begin(room);
        return x;
    }

    /** One closed run of so many parcels, with the keys 10, 20, 30 and so on. */
    private static BoatRuns runOf(int parcels) {
        BoatRuns x = boat(12);
        for (int i = 1; i <= parcels; i++) {
            x.load(10 * i, i);
        }
        x.empty();
        return x;
    }

    /** One closed run of two parcels, whose float has this strength. */
    private static BoatRuns runOfStrength(int strength) {
        BoatRuns x = runOf(2);
        for (int i = 5; i < strength; i++) {
            x.tighten(0);
        }
        for (int i = 5; i > strength; i--) {
            x.storm(1);
        }
        Check.same("the strength", x.run(0, 2), strength);
        return x;
    }

    // ---- what it is

    private static void whatItIs() {
        Doc.about("What it is", "Sorting from a small boat: parcels are loaded one by one, the boat throws them "
                + "overboard in rising runs, each run tied to a float, storms break runs, runs are merged by weight, "
                + "and rising runs are brought ashore; ties stay as they came; what-if questions, and orders that "
                + "are read from a text.");
        BoatRuns x = boat(3);
        Check.loadKeys(x, 30, 10, 20, 40, 15, 5, 25);
        Check.same("runs", x.empty(), 2);
        Check.same("row 0", Check.row(x, 0), "1 2 0 3");
        Check.same("row 1", Check.row(x, 1), "5 4 6");
        x.mergeLightest();
        Check.same("ashore", x.land(0), 7);
        Check.same("the row ashore", Check.shore(x), "5 1 4 2 6 0 3");
    }

    private static void tiesStayAsTheyCame() {
        BoatRuns x = boat(2);
        Check.loadKeys(x, 7, 7, 7, 6, 7, 7);
        x.empty();
        Check.same("ties in a run", Check.row(x, 0), "0 1 2 4 5");
        x.merge(0, 1);
        x.land(0);
        Check.same("ties ashore", Check.shore(x), "3 0 1 2 4 5");
    }

    private static void division() {
        Doc.about("What it is", "a / b means division rounded down; all divided numbers are 0 or more.");
        int[] staying = {1, 1, 2, 2, 3, 3, 4, 4, 5, 5, 6, 6};
        for (int parcels = 1; parcels <= 12; parcels++) {
            BoatRuns x = runOf(parcels);
            x.storm(9);
            Check.same("(" + parcels + " + 1) / 2", x.run(0, 0), staying[parcels - 1]);
        }
        BoatRuns x = boat(4);
        x.loadDrawn(0, 1, 1000);
        Check.same("12345 / 65536", x.parcel(0, 0), 0);
        Check.same("12345 / 1024 + 1", x.parcel(0, 1), 13);
    }

    private static void theLastCall() {
        Doc.about("What it is",
                "An object is used for at most 512 calls after it has been made; what later calls answer is free.");
        BoatRuns stormy = new BoatRuns();
        for (int call = 1; call <= 511; call++) {
            Check.same("storm " + call, stormy.storm(1 + call % 9), 0);
        }
        Check.same("call 512 after 511 storms", stormy.value(8), 511);
        BoatRuns refusing = new BoatRuns();
        for (int call = 1; call <= 510; call++) {
            Check.same("call " + call, Check.thrown(() -> refusing.load(1000, 1)), "IllegalArgumentException");
        }
        Check.same("call 511 after 510 refused ones", refusing.load(999, 1), BoatRuns.NONE);
        Check.same("call 512", refusing.value(2), 1);
        BoatRuns writing = new BoatRuns();
        for (int call = 1; call <= 511; call++) {
            if (call % 101 == 0) {
                Check.same("call " + call, writing.clearText(), 100);
            } else {
                Check.same("call " + call, writing.append('e'), call % 101);
            }
        }
        Check.same("call 512 after 511 of the text", writing.carryOut(), -11);
    }

    /** Each pair of orders breaks the only run and merges it again, which takes a new float. */
    private static void theLastOfManyFloats() {
        BoatRuns x = boat(2);
        x.load(1, 50);
        x.load(2, 50);
        x.empty();
        Check.write(x, "s9;l;".repeat(20));
        int calls = 1 + 3 + 1 + 100;
        int carriedOut = 0;
        while (calls < 506) {
            Check.same("40 orders, call " + calls, x.carryOut(), 40);
            carriedOut++;
            calls++;
        }
        Check.same("the floats used", x.value(11), 1 + 20 * carriedOut);
        Check.same("the costs", x.value(6), 100 * 20 * carriedOut);
        Check.same("one breaks", x.storm(1), 1);
        int number = x.runAt(1);
        Check.same("its number", number, 1 + 20 * carriedOut);
        Check.same("the run of this number", x.inRun(number, 0), 1);
        Check.same("the last call, a merge", x.merge(number, 0), 100);
    }

    private static void none() {
        Doc.about("Terms, The constants", "`NONE = -1`: There is no such thing.");
        BoatRuns x = new BoatRuns();
        Check.same("NONE", BoatRuns.NONE, -1);
        Check.same("no open run", x.value(10), BoatRuns.NONE);
        Check.same("no parcel to be thrown", x.nextThrown(), BoatRuns.NONE);
        Check.same("no run to which a parcel was thrown", x.load(0, 1), BoatRuns.NONE);
        Check.same("no run of a parcel in the boat", x.parcel(0, 3), BoatRuns.NONE);
        Check.same("no place in the boat", x.parcel(0, 4), BoatRuns.NONE);
        Check.refused("no run has that number", x, Check.ELEMENT, () -> x.run(BoatRuns.NONE, 0));
        Check.refused("no parcel has that number", x, Check.INDEX, () -> x.parcel(BoatRuns.NONE, 0));
    }

    // ---- parcels and the boat

    private static void mostParcels() {
        Doc.about("Terms, Parcels",
                "They are numbered from 0 in the order in which they are loaded; at most 120 can be loaded.");
        BoatRuns first = new BoatRuns();
        Check.refused("no parcel is loaded", first, Check.INDEX, () -> first.parcel(0, 0));
        first.load(999, 50);
        first.load(0, 1);
        Check.same("parcel 0", Check.parcel(first, 0), "999 50 0 -1 -1");
        Check.same("parcel 1", Check.parcel(first, 1), "0 1 0 -1 -1");
        Check.refused("parcel 2", first, Check.INDEX, () -> first.parcel(2, 0));
        BoatRuns x = Check.loaded(118);
        Check.same("the 119th", Check.thrown(() -> x.load(8, 9)), "nothing");
        Check.same("parcel 118", x.parcel(118, 0), 8);
        Check.same("the 120th", Check.thrown(() -> x.load(5, 6)), "nothing");
        Check.same("parcel 119", x.parcel(119, 0), 5);
        Check.refused("the 121st", x, Check.STATE, () -> x.load(5, 6));
        Check.refused("parcel 120", x, Check.INDEX, () -> x.parcel(120, 0));
        x.empty();
        Check.refused("the 121st, into an empty boat", x, Check.STATE, () -> x.load(5, 6));
        x.undo();
        x.undo();
        Check.same("the 120th again, after undo", Check.thrown(() -> x.load(7, 7)), "nothing");
        Check.refused("and the 121st", x, Check.STATE, () -> x.load(5, 6));
        x.begin(4);
        Check.same("the first one of another boat", x.load(1, 1), BoatRuns.NONE);
        Check.same("its number is 0", x.parcel(0, 0), 1);
    }

    private static void mostParcelsByOtherCalls() {
        BoatRuns drawn = Check.loaded(119);
        Check.same("drawn, one more", drawn.loadDrawn(1, 1, 9), 1);
        Check.same("drawn, not the 121st", drawn.loadDrawn(1, 1, 9), 0);
        BoatRuns both = Check.loaded(119);
        Check.same("drawn, one of two", both.loadDrawn(1, 2, 9), 1);
        Check.same("120 parcels", both.value(2), 120);
        BoatRuns read = Check.loaded(118);
        Check.same("read, two of three", Check.carryOut(read, "p1,1;p2,2;p3,3;e;"), 2);
        Check.same("120 parcels", read.value(2), 120);
        Check.same("read, none", Check.carryOut(read, "p3,3;"), 0);
        BoatRuns two = Check.loaded(118);
        Check.same("read, two of two", Check.carryOut(two, "p1,1;p2,2;e;"), 3);
    }

    private static void keysAndWeights() {
        Doc.about("Terms, Parcels", "A parcel has a key, 0 to 999, and a weight, 1 to 50.");
        Check.range(Check::busy, 0, 999, Check.ARGUMENT, (x, key) -> x.load(key, 1));
        Check.range(Check::busy, 1, 50, Check.ARGUMENT, (x, weight) -> x.load(0, weight));
        BoatRuns x = boat(4);
        x.load(0, 50);
        x.load(999, 1);
        Check.same("lowest key, highest weight", Check.parcel(x, 0), "0 50 0 -1 -1");
        Check.same("highest key, lowest weight", Check.parcel(x, 1), "999 1 0 -1 -1");
    }

    private static void less() {
        Doc.about("Terms, Parcels",
                "A parcel is less than another one if its key is less, or the keys are equal and its number is less.");
        Check.same("key one less", leastOf(500, 499), 1);
        Check.same("equal keys", leastOf(500, 500), 0);
        Check.same("key one greater", leastOf(500, 501), 0);
        Check.same("lowest and highest key", leastOf(999, 0), 1);
        Check.same("highest and lowest key", leastOf(0, 999), 0);
        Check.same("equal keys at 0", leastOf(0, 0), 0);
        Check.same("equal keys at 999", leastOf(999, 999), 0);
    }

    private static int leastOf(int first, int second) {
        BoatRuns x = new BoatRuns();
        Check.loadKeys(x, first, second);
        return x.nextThrown();
    }

    private static void room() {
        Doc.about("Terms, Boat", "It has room for 1 to 12 parcels, initially 4.");
        Check.range(BoatRuns::new, 1, 12, Check.ARGUMENT, BoatRuns::begin);
        for (int room = 1; room <= 12; room++) {
            takesSoMany(boat(room), room);
        }
        takesSoMany(new BoatRuns(), 4);
    }

    private static void takesSoMany(BoatRuns x, int room) {
        Check.same("the room", x.value(0), room);
        for (int i = 1; i <= room; i++) {
            Check.same("room " + room + ", parcel " + i, x.load(100 - i, 1), BoatRuns.NONE);
        }
        Check.same("room " + room + ", the boat is full", x.value(1), room);
        Check.same("room " + room + ", nothing is overboard", x.value(3), 0);
        Check.same("room " + room + ", one more", x.load(50, 1), 0);
        Check.same("room " + room + ", the boat is still full", x.value(1), room);
        Check.same("room " + room + ", the least is overboard", x.inRun(0, 0), room - 1);
    }

    // ---- runs

    private static void eachParcelIsLessThanTheNext() {
        Doc.about("Terms, Runs", "A run is a row of parcels, each less than the next one, tied to a float.");
        BoatRuns one = runOf(1);
        Check.same("a run of one", Check.row(one, 0), "0");
        BoatRuns ties = boat(1);
        Check.loadKeys(ties, 5, 5, 5, 4);
        ties.empty();
        Check.same("equal keys are one run, a lesser key is none of it", ties.value(3), 2);
        Check.same("the row of equal keys", Check.row(ties, 0), "0 1 2");
        BoatRuns all = Check.loaded(120);
        all.empty();
        while (all.value(3) > 1) {
            all.mergeLightest();
        }
        String[] row = Check.row(all, all.runAt(0)).split(" ");
        Check.same("a run of 120", row.length, 120);
        int before = Integer.parseInt(row[0]);
        for (int place = 1; place < 120; place++) {
            int parcel = Integer.parseInt(row[place]);
            int difference = all.parcel(parcel, 0) - all.parcel(before, 0);
            Check.isTrue("place " + place, difference > 0 || difference == 0 && before < parcel);
            before = parcel;
        }
    }

    private static void floatNumbers() {
        Doc.about("Terms, Runs", "Floats are numbered from 0 as they are used first; a number is not used again.");
        BoatRuns x = boat(1);
        Check.same("no float is used", x.value(11), 0);
        Check.refused("no run 0", x, Check.ELEMENT, () -> x.run(0, 0));
        Check.loadKeys(x, 9, 8);
        Check.same("the first one is 0", Check.runs(x), "0");
        Check.same("one is used", x.value(11), 1);
        Check.refused("no run 1", x, Check.ELEMENT, () -> x.run(1, 0));
        x.load(7, 1);
        Check.same("the next one is 1", Check.runs(x), "0 1");
        BoatRuns falling = boat(1);
        for (int key = 120; key >= 1; key--) {
            falling.load(key, 1);
        }
        Check.same("120 runs", falling.empty(), 120);
        Check.same("the last number", falling.runAt(119), 119);
        Check.refused("no run 120", falling, Check.ELEMENT, () -> falling.run(120, 0));
    }

    private static void floatNumbersAreNotUsedAgain() {
        BoatRuns merged = runOf(1);
        Check.makeRun(merged, 1, 20);
        merged.merge(0, 1);
        Check.makeRun(merged, 1, 30);
        Check.same("1 is gone by merging", Check.runs(merged), "0 2");
        BoatRuns landed = runOf(1);
        landed.land(0);
        Check.makeRun(landed, 1, 30);
        Check.same("0 is gone ashore", Check.runs(landed), "1");
        BoatRuns broken = runOf(2);
        broken.storm(9);
        broken.land(0);
        broken.land(1);
        Check.makeRun(broken, 1, 90, 91);
        broken.storm(9);
        Check.same("0 and 1 are gone, 3 is of the storm", Check.runs(broken), "2 3");
        broken.begin(4);
        Check.makeRun(broken, 1, 90);
        Check.same("from 0 again with another boat", Check.runs(broken), "0");
    }

    private static void strengths() {
        Doc.about("Terms, Runs", "Each float has a strength, 0 to 9, at first 5.");
        BoatRuns x = runOf(2);
        Check.same("at first, of a float that is thrown", x.run(0, 2), 5);
        x.storm(6);
        Check.same("at first, of a float of a storm", x.run(1, 2), 5);
        BoatRuns high = runOfStrength(8);
        Check.same("from 8 up", high.tighten(0), 9);
        Check.same("from 9 up", high.tighten(0), 9);
        Check.same("the highest", high.run(0, 2), 9);
        BoatRuns low = runOfStrength(1);
        low.storm(1);
        Check.same("from 1 down", low.run(0, 2), 0);
        low.storm(1);
        Check.same("from 0 down", low.run(0, 2), 0);
        Check.same("from 0 up", low.tighten(0), 1);
    }

    private static void weights() {
        Doc.about("Terms, Runs",
                "The number of a run is that of its float; its weight is the sum of the weights of its parcels.");
        BoatRuns light = boat(4);
        Check.makeRun(light, 1, 10);
        Check.same("the least weight", light.run(0, 1), 1);
        BoatRuns heavy = boat(1);
        for (int i = 0; i < 120; i++) {
            heavy.load(i, 50);
        }
        heavy.empty();
        Check.same("the greatest weight", heavy.run(0, 1), 6000);
        heavy.storm(9);
        Check.same("the half of it", heavy.run(0, 1), 3000);
        Check.same("the other half, of run 1", heavy.run(1, 1), 3000);
        Check.same("its first parcel is in run 1", heavy.parcel(60, 3), 1);
    }

    private static void oneOpenRun() {
        Doc.about("Terms, Runs", "One run can be open.");
        BoatRuns x = boat(1);
        Check.same("none at first", x.value(10), BoatRuns.NONE);
        Check.loadKeys(x, 9, 8);
        Check.same("the first one", x.value(10) + " " + x.run(0, 5), "0 1");
        x.load(7, 1);
        Check.same("the second one instead", x.value(10) + " " + x.run(0, 5) + " " + x.run(1, 5), "1 0 1");
        x.empty();
        Check.same("none in the end", x.value(10) + " " + x.run(1, 5) + " " + x.run(2, 5), "-1 0 0");
    }

    // ---- throwing and loading

    private static void throwingToTheOpenRun() {
        Doc.about("Terms, Throwing", "To throw a parcel overboard means: if a run is open and the boat has parcels that "
                + "the last parcel of this run is less than, the least one of these is added to the end of it; "
                + "otherwise the least parcel in the boat becomes a new run with a new float, and this run is the "
                + "open one.");
        Check.same("key one less than the last one", secondRun(500, 499), 1);
        Check.same("equal keys, it came later", secondRun(500, 500), 0);
        Check.same("key one greater", secondRun(500, 501), 0);
        Check.same("key 0 behind 999", secondRun(999, 0), 1);
        Check.same("key 999 behind 0", secondRun(0, 999), 0);
        Check.same("key 0 behind 0", secondRun(0, 0), 0);
    }

    /** In a boat of one: the run to which the second parcel is thrown, behind the first one in run 0. */
    private static int secondRun(int first, int second) {
        BoatRuns x = boat(1);
        Check.loadKeys(x, first, second);
        Check.same("the run that is open", x.value(10), 0);
        int run = x.load(0, 1);
        Check.same("the open one then", x.value(10), run);
        Check.same("its last parcel", x.inRun(run, x.run(run, 0) - 1), 1);
        return run;
    }

    private static void throwingTheLeastThatFits() {
        BoatRuns x = boat(3);
        Check.loadKeys(x, 50, 90, 70, 49);
        Check.same("the open run ends with 50", x.run(0, 4), 50);
        Check.same("the least of 90, 70, that fit, not 49", x.nextThrown(), 2);
        x.load(50, 1);
        Check.same("90 fits behind 70, 49 and 50 don't", x.nextThrown(), 1);
        x.load(48, 1);
        Check.same("none fits, the least is 48", x.nextThrown(), 5);
        Check.same("a new run", x.load(47, 1), 1);
        Check.same("49 fits behind 48, 47 doesn't", x.nextThrown(), 3);
        BoatRuns equal = boat(2);
        Check.loadKeys(equal, 50, 51, 50);
        Check.same("an equal key is the least that fits", equal.nextThrown(), 2);
    }

    private static void throwingWithoutAnOpenRun() {
        BoatRuns x = boat(2);
        Check.loadKeys(x, 10, 20, 30);
        x.storm(1);
        Check.same("no run is open, the least becomes a new run", x.load(40, 1), 1);
        Check.same("although it would fit run 0", Check.row(x, 0) + "/" + Check.row(x, 1), "0/1");
        Check.same("this run is the open one", x.value(10), 1);
    }

    private static void loadingIntoAFullBoat() {
        Doc.about("Terms, Loading",
                "A parcel that is loaded into a full boat comes in after one parcel has been thrown overboard.");
        for (int room = 1; room <= 12; room++) {
            BoatRuns x = boat(room);
            for (int i = 0; i < room - 1; i++) {
                x.load(500 + i, 1);
            }
            Check.same("room " + room + ", one place is free", x.load(600, 1), BoatRuns.NONE);
            Check.same("room " + room + ", full", x.load(0, 1), 0);
            Check.same("the least of the others is overboard", Check.row(x, 0), "0");
            Check.same("the new one is in the boat", x.parcel(room, 2), 0);
            Check.same("as many as before", x.value(1), room);
        }
    }

    // ---- merging

    private static void merging() {
        Doc.about("Terms, Merging", "Two runs become one run, with all parcels of both in order; it has the float with "
                + "the lower number of the two, whose strength stays.");
        for (int first = 0; first < 2; first++) {
            BoatRuns x = boat(12);
            Check.makeRun(x, 1, 10, 30, 50);
            Check.makeRun(x, 1, 20, 30, 40);
            x.tighten(0);
            x.tighten(1);
            x.tighten(1);
            Check.same("the cost", x.merge(first, 1 - first), 6);
            Check.same("the runs", Check.runs(x), "0");
            Check.same("all parcels in order, ties as they came", Check.row(x, 0), "0 3 1 4 5 2");
            Check.same("the strength of the lower one", x.run(0, 2), 6);
            Check.refused("the higher one is gone", x, Check.ELEMENT, () -> x.run(1, 0));
        }
    }

    private static void mergingManyAndFew() {
        BoatRuns two = runOf(1);
        Check.makeRun(two, 1, 5);
        two.merge(0, 1);
        Check.same("one parcel each", Check.row(two, 0), "1 0");
        BoatRuns apart = runOf(2);
        Check.makeRun(apart, 1, 30, 40);
        apart.merge(1, 0);
        Check.same("all of one behind all of the other", Check.row(apart, 0), "0 1 2 3");
        BoatRuns far = boat(1);
        for (int i = 0; i < 60; i++) {
            far.load(i, 1);
        }
        far.empty();
        for (int i = 0; i < 60; i++) {
            far.load(i, 1);
        }
        far.empty();
        far.merge(0, 1);
        Check.same("60 parcels each", far.run(0, 0), 120);
        Check.same("the first two", far.inRun(0, 0) + " " + far.inRun(0, 1), "0 60");
        Check.same("the last two", far.inRun(0, 118) + " " + far.inRun(0, 119), "59 119");
    }

    private static void cost() {
        Doc.about("Terms, Merging", "The cost is the weight of the new run.");
        BoatRuns light = boat(4);
        Check.makeRun(light, 1, 10);
        Check.makeRun(light, 1, 5);
        Check.same("the least cost", light.merge(0, 1), 2);
        Check.same("the sum of the costs", light.value(6), 2);
        BoatRuns heavy = boat(1);
        for (int i = 0; i < 60; i++) {
            heavy.load(500, 50);
        }
        for (int i = 0; i < 60; i++) {
            heavy.load(400, 50);
        }
        heavy.empty();
        Check.same("the greatest cost", heavy.merge(1, 0), 6000);
        Check.same("the sum of the costs", heavy.value(6), 6000);
    }

    private static void mergingTheOpenRun() {
        Doc.about("Terms, Merging", "If one of the two was open, no run is open then.");
        int[][] pairs = {{0, 1}, {1, 0}, {0, 2}, {2, 0}, {1, 2}, {2, 1}};
        for (int[] pair : pairs) {
            BoatRuns x = boat(1);
            Check.loadKeys(x, 30, 20, 10, 90);
            Check.same("the open one", x.value(10), 2);
            x.merge(pair[0], pair[1]);
            boolean stays = pair[0] + pair[1] == 1;
            String what = "merge(" + pair[0] + ", " + pair[1] + ")";
            Check.same(what + ", the open one then", x.value(10), stays ? 2 : BoatRuns.NONE);
            Check.same(what + ", the run of the next parcel", x.load(95, 1), stays ? 2 : 3);
        }
        BoatRuns lightest = boat(1);
        lightest.load(30, 9);
        lightest.load(20, 1);
        lightest.load(10, 1);
        lightest.load(90, 1);
        lightest.mergeLightest();
        Check.same("by mergeLightest", lightest.value(10), BoatRuns.NONE);
        BoatRuns read = boat(1);
        Check.loadKeys(read, 30, 20, 10, 90);
        Check.carryOut(read, "m0+1;");
        Check.same("by an order, another one stays open", read.value(10), 2);
        Check.carryOut(read, "m2+0;");
        Check.same("by an order", read.value(10), BoatRuns.NONE);
    }

    private static void twoLightest() {
        Doc.about("Terms, Merging", "The two lightest runs are the run with the least weight, of several the one with the "
                + "lowest number, and then the lightest one of the others by the same rule.");
        lightestAre("one lighter than two equal ones", "0 2", 3, 3, 2);
        lightestAre("two equal ones behind a heavier one", "1 2", 4, 3, 3);
        lightestAre("three equal ones", "0 1", 3, 3, 3);
        lightestAre("the second of equal ones by its number", "0 3", 3, 3, 3, 2);
        lightestAre("weights one apart", "1 2", 5, 3, 4);
        lightestAre("falling weights", "2 3", 5, 4, 3, 2);
        lightestAre("two runs", "0 1", 50, 1);
        lightestAre("least and greatest", "0 1", 1, 50);
    }

    private static void lightestAre(String what, String pair, int... weights) {
        BoatRuns x = boat(4);
        for (int weight : weights) {
            Check.makeRun(x, weight, 500);
        }
        int first = pair.charAt(0) - '0';
        int second = pair.charAt(2) - '0';
        Check.same(what + ", its number", x.mergeLightest(), first);
        Check.same(what + ", its parcels", Check.row(x, first), pair);
        Check.same(what + ", its cost", x.value(6), weights[first] + weights[second]);
    }

    // ---- storms

    private static void forces() {
        Doc.about("Terms, Storms", "A storm has a force, 1 to 9.");
        Check.range(Check::busy, 1, 9, Check.ARGUMENT, BoatRuns::storm);
        Check.range(BoatRuns::new, 1, 9, Check.ARGUMENT, BoatRuns::storm);
    }

    private static void whichRunsBreak() {
        Doc.about("Terms, Storms", "Each run, in ascending order of the numbers it had before the storm, that has n "
                + "parcels, at least 2, and a float whose strength is less than the force, breaks: its first "
                + "(n + 1) / 2 parcels stay at its float, and the others become a run with a new float.");
        for (int strength = 0; strength <= 9; strength++) {
            for (int force = 1; force <= 9; force++) {
                BoatRuns x = runOfStrength(strength);
                int breaks = strength < force ? 1 : 0;
                String what = "strength " + strength + ", force " + force;
                Check.same(what, x.storm(force), breaks);
                Check.same(what + ", the runs then", x.value(3), 1 + breaks);
                Check.same(what + ", the runs broken", x.value(9), breaks);
            }
        }
        BoatRuns one = runOf(1);
        for (int i = 0; i < 6; i++) {
            Check.same("a run of one parcel", one.storm(9), 0);
        }
        Check.same("is still there", Check.run(one, 0), "1 1 0 10 10 0");
        Check.same("a run of two parcels", runOf(2).storm(9), 1);
    }

    private static void whereRunsBreak() {
        String[] rows = {"0", "0/1", "0 1/2", "0 1/2 3", "0 1 2/3 4", "0 1 2/3 4 5", "0 1 2 3/4 5 6"};
        for (int parcels = 1; parcels <= 7; parcels++) {
            BoatRuns x = runOf(parcels);
            x.storm(6);
            String second = parcels == 1 ? "" : "/" + Check.row(x, 1);
            Check.same(parcels + " parcels", Check.row(x, 0) + second, rows[parcels - 1]);
        }
        BoatRuns three = runOf(3);
        three.storm(6);
        Check.same("the run that stays", Check.run(three, 0), "2 3 4 10 20 0");
        Check.same("the new run", Check.run(three, 1), "1 3 5 30 30 0");
        BoatRuns all = boat(1);
        for (int i = 0; i < 120; i++) {
            all.load(i, 1);
        }
        all.empty();
        for (int i = 1; i <= 7; i++) {
            all.storm(9);
        }
        Check.same("120 parcels, 7 storms", all.value(3), 120);
        Check.same("the last number", all.runAt(119), 119);
        Check.same("the broken ones", all.value(9), 119);
        Check.same("one more storm", all.storm(9), 0);
    }

    private static void inWhichOrderRunsBreak() {
        BoatRuns x = runOf(2);
        Check.makeRun(x, 1, 5, 6);
        Check.makeRun(x, 1, 7);
        Check.makeRun(x, 1, 1, 2, 3, 4);
        Check.same("three break", x.storm(9), 3);
        Check.same("the numbers", Check.runs(x), "0 1 2 3 4 5 6");
        Check.same("the new run of run 0", Check.row(x, 4), "1");
        Check.same("the new run of run 1", Check.row(x, 5), "3");
        Check.same("the new run of run 3, which doesn't break again", Check.row(x, 6), "7 8");
    }

    private static void strengthsFall() {
        Doc.about("Terms, Storms",
                "Then the strength of each float that was there before the storm falls by 1, not below 0.");
        for (int strength = 0; strength <= 9; strength++) {
            for (int force = 1; force <= 9; force += 4) {
                BoatRuns x = runOfStrength(strength);
                boolean breaks = x.storm(force) == 1;
                String what = "strength " + strength + ", force " + force;
                Check.same(what, x.run(0, 2), Math.max(strength - 1, 0));
                if (breaks) {
                    Check.same(what + ", the new float", x.run(1, 2), 5);
                }
            }
        }
        BoatRuns two = runOf(1);
        Check.makeRun(two, 1, 5);
        two.tighten(1);
        two.storm(1);
        Check.same("of each float", two.run(0, 2) + " " + two.run(1, 2), "4 5");
        Check.makeRun(two, 1, 6);
        Check.same("not of one that is used later", two.run(2, 2), 5);
    }

    private static void noRunIsOpenAfterAStorm() {
        Doc.about("Terms, Storms", "No run is open then.");
        for (int force : new int[] {1, 5, 6, 9}) {
            BoatRuns x = boat(2);
            Check.loadKeys(x, 10, 20, 30, 40);
            Check.same("the open one", x.value(10), 0);
            Check.same("those that break at force " + force, x.storm(force), force > 5 ? 1 : 0);
            Check.same("none is open", x.value(10), BoatRuns.NONE);
            Check.same("nor run 0", x.run(0, 5), 0);
            int next = force > 5 ? 2 : 1;
            Check.same("the run of the next parcel", x.load(50, 1), next);
        }
        BoatRuns none = boat(2);
        none.storm(9);
        Check.same("none was open before", none.value(10), BoatRuns.NONE);
    }

    // ---- the shore

    private static void canBeBroughtAshore() {
        Doc.about("Terms, Shore", "A run can be brought ashore if nothing is ashore, or the last parcel ashore is less "
                + "than its first one.");
        Check.same("nothing is ashore, lowest key", Check.thrown(() -> landed().land(0)), "nothing");
        for (int key : new int[] {0, 498, 499}) {
            Check.refusedOn("first key " + key + " behind 500", () -> landed(500, key), Check.STATE, x -> x.land(1));
        }
        for (int key : new int[] {500, 501, 999}) {
            BoatRuns x = landed(500, key);
            Check.same("first key " + key + " behind 500", x.land(1), 2);
        }
        BoatRuns x = landed(500);
        Check.makeRun(x, 1, 499, 501);
        Check.refused("its first one counts, not its last one", x, Check.STATE, () -> x.land(1));
        BoatRuns last = new BoatRuns();
        Check.makeRun(last, 1, 400, 500);
        Check.makeRun(last, 1, 450);
        last.land(0);
        Check.refused("the last one ashore counts, not the first", last, Check.STATE, () -> last.land(1));
    }

    /** Runs of one parcel with these keys, of which the first one is ashore; without keys one run of key 0. */
    private static BoatRuns landed(int... keys) {
        BoatRuns x = new BoatRuns();
        for (int key : keys) {
            Check.makeRun(x, 1, key);
        }
        if (keys.length == 0) {
            Check.makeRun(x, 1, 0);
        } else {
            x.land(0);
        }
        return x;
    }

    private static void tiesAshore() {
        BoatRuns x = new BoatRuns();
        Check.makeRun(x, 1, 500);
        Check.makeRun(x, 1, 500);
        Check.makeRun(x, 1, 500);
        x.land(1);
        Check.refused("equal keys, a lower number", x, Check.STATE, () -> x.land(0));
        Check.same("equal keys, a higher number", x.land(2), 2);
        Check.same("ashore", Check.shore(x), "1 2");
    }

    private static void parcelsAshore() {
        Doc.about("Terms, Shore", "Its parcels are added to those ashore; its float is gone.");
        BoatRuns x = runOf(2);
        Check.makeRun(x, 1, 30, 40, 50);
        x.tighten(1);
        Check.same("two", x.land(0), 2);
        Check.same("ashore", Check.shore(x), "0 1");
        Check.refused("its float is gone", x, Check.ELEMENT, () -> x.run(0, 0));
        Check.same("the other one stays", Check.run(x, 1), "3 3 6 30 50 0");
        Check.same("three more", x.land(1), 5);
        Check.same("ashore then", Check.shore(x), "0 1 2 3 4");
        Check.same("no run is left", x.value(3), 0);
        Check.same("two floats were used", x.value(11), 2);
        BoatRuns all = boat(1);
        for (int i = 0; i < 120; i++) {
            all.load(i, 1);
        }
        all.empty();
        Check.same("120 parcels", all.land(0), 120);
        Check.same("the first and the last one", all.ashore(0) + " " + all.ashore(119), "0 119");
    }

    private static void theOpenRunAshore() {
        Doc.about("Terms, Shore", "If it was open, no run is open then.");
        BoatRuns x = boat(1);
        Check.makeRun(x, 1, 5);
        Check.loadKeys(x, 7, 8);
        x.land(0);
        Check.same("another one stays open", x.value(10), 1);
        x.land(1);
        Check.same("none is open", x.value(10), BoatRuns.NONE);
        Check.same("the run of the next parcel", x.load(9, 1), 2);
    }
}
