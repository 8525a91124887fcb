/** Promises 11 to 16: the calls that ask for values. */
public final class ValuesTest {
    public static void main(String[] args) {
        parcel();
        parcelRefused();
        run();
        runRefused();
        inRun();
        ashore();
        runAt();
        value();
        valueRefused();
        Check.finish();
    }

    /** A boat of two with parcels in it, in two runs, of which one is open, and ashore. */
    private static BoatRuns sample() {
        BoatRuns x = new BoatRuns();
        x.begin(2);
        x.load(30, 7);
        x.load(10, 8);
        x.empty();
        x.land(0);
        x.load(60, 1);
        x.load(50, 2);
        x.empty();
        x.load(80, 3);
        x.load(40, 4);
        x.load(90, 5);
        x.load(85, 6);
        return x;
    }

    private static void parcel() {
        BoatRuns x = sample();
        Check.same("11: ashore", Check.parcel(x, 0), "30 7 2 -1 1");
        Check.same("11: ashore, the first", Check.parcel(x, 1), "10 8 2 -1 0");
        Check.same("11: in a run", Check.parcel(x, 2), "60 1 1 1 1");
        Check.same("11: in a run, the first", Check.parcel(x, 3), "50 2 1 1 0");
        Check.same("11: in the open run", Check.parcel(x, 5), "40 4 1 2 0");
        Check.same("11: its second", Check.parcel(x, 4), "80 3 1 2 1");
        Check.same("11: in the boat", Check.parcel(x, 6), "90 5 0 -1 -1");
        Check.same("11: in the boat, the last", Check.parcel(x, 7), "85 6 0 -1 -1");
    }

    private static void parcelRefused() {
        BoatRuns x = sample();
        Check.refused("11: parcel 8", x, Check.INDEX, () -> x.parcel(8, 0));
        Check.refused("11: parcel -1", x, Check.INDEX, () -> x.parcel(-1, 0));
        Check.refused("11: parcel MAX", x, Check.INDEX, () -> x.parcel(Integer.MAX_VALUE, 4));
        Check.refused("11: what 5", x, Check.ARGUMENT, () -> x.parcel(0, 5));
        Check.refused("11: what -1", x, Check.ARGUMENT, () -> x.parcel(7, -1));
        Check.refused("11: both", x, Check.INDEX, () -> x.parcel(8, 5));
    }

    private static void run() {
        BoatRuns x = sample();
        x.tighten(1);
        Check.same("12: run 1", Check.run(x, 1), "2 3 6 50 60 0");
        Check.same("12: run 2", Check.run(x, 2), "2 7 5 40 80 1");
    }

    private static void runRefused() {
        BoatRuns x = sample();
        Check.refused("12: a run that is ashore", x, Check.ELEMENT, () -> x.run(0, 0));
        Check.refused("12: run 3", x, Check.ELEMENT, () -> x.run(3, 0));
        Check.refused("12: run -1", x, Check.ELEMENT, () -> x.run(-1, 0));
        Check.refused("12: run -2", x, Check.ELEMENT, () -> x.run(-2, 0));
        Check.refused("12: what 6", x, Check.ARGUMENT, () -> x.run(1, 6));
        Check.refused("12: what -1", x, Check.ARGUMENT, () -> x.run(1, -1));
        Check.refused("12: both", x, Check.ELEMENT, () -> x.run(0, 6));
    }

    private static void inRun() {
        BoatRuns x = sample();
        Check.same("13: place 0", x.inRun(1, 0), 3);
        Check.same("13: place 1", x.inRun(1, 1), 2);
        Check.same("13: the open run", Check.row(x, 2), "5 4");
        Check.refused("13: place 2", x, Check.INDEX, () -> x.inRun(1, 2));
        Check.refused("13: place -1", x, Check.INDEX, () -> x.inRun(1, -1));
        Check.refused("13: run 0", x, Check.ELEMENT, () -> x.inRun(0, 0));
        Check.refused("13: run -1", x, Check.ELEMENT, () -> x.inRun(-1, 0));
        Check.refused("13: run -2", x, Check.ELEMENT, () -> x.inRun(-2, 0));
        Check.refused("13: both", x, Check.ELEMENT, () -> x.inRun(0, 2));
    }

    private static void ashore() {
        BoatRuns x = sample();
        Check.same("14: place 0", x.ashore(0), 1);
        Check.same("14: place 1", x.ashore(1), 0);
        Check.refused("14: place 2", x, Check.INDEX, () -> x.ashore(2));
        Check.refused("14: place -1", x, Check.INDEX, () -> x.ashore(-1));
        BoatRuns none = new BoatRuns();
        Check.refused("14: nothing ashore", none, Check.INDEX, () -> none.ashore(0));
    }

    private static void runAt() {
        BoatRuns x = sample();
        Check.same("15: index 0", x.runAt(0), 1);
        Check.same("15: index 1", x.runAt(1), 2);
        Check.refused("15: index 2", x, Check.INDEX, () -> x.runAt(2));
        Check.refused("15: index -1", x, Check.INDEX, () -> x.runAt(-1));
        BoatRuns none = new BoatRuns();
        Check.refused("15: no runs", none, Check.INDEX, () -> none.runAt(0));
    }

    private static void value() {
        BoatRuns x = sample();
        Check.same("16: values", Check.values(x), "2 2 8 2 4 2 0 0 0 0 2 3");
        x.merge(1, 2);
        Check.same("16: after a merge", Check.values(x), "2 2 8 1 4 2 10 1 0 0 -1 3");
        x.storm(9);
        Check.same("16: after a storm", Check.values(x), "2 2 8 2 4 2 10 1 1 1 -1 4");
        x.mergeLightest();
        x.storm(1);
        Check.same("16: and again", Check.values(x), "2 2 8 1 4 2 20 2 2 1 -1 4");
    }

    private static void valueRefused() {
        BoatRuns x = sample();
        Check.refused("16: what 12", x, Check.ARGUMENT, () -> x.value(12));
        Check.refused("16: what -1", x, Check.ARGUMENT, () -> x.value(-1));
        Check.refused("16: what MIN", x, Check.ARGUMENT, () -> x.value(Integer.MIN_VALUE));
    }
}
