import java.util.ArrayList;
import java.util.List;

/** Promises 27 and 28: undo and digest. */
public final class StateTest {
    public static void main(String[] args) {
        undoEveryUndoableCall();
        fourStatesAreSaved();
        undoAfterUndo();
        undoKeepsTheText();
        undoRestoresNumbers();
        undoRefused();
        digestOfANewObject();
        digestOfASample();
        digestTellsStatesApart();
        Check.finish();
    }

    private static void undoEveryUndoableCall() {
        List<java.util.function.Consumer<BoatRuns>> calls = new ArrayList<>();
        calls.add(x -> x.begin(7));
        calls.add(x -> x.load(1, 2));
        calls.add(x -> x.loadDrawn(3, 5, 9));
        calls.add(x -> x.empty());
        calls.add(x -> x.merge(0, 1));
        calls.add(x -> x.mergeLightest());
        calls.add(x -> x.storm(9));
        calls.add(x -> x.tighten(1));
        calls.add(x -> x.land(0));
        calls.add(x -> x.carryOut());
        for (int i = 0; i < calls.size(); i++) {
            BoatRuns x = sample();
            String before = Check.picture(x);
            calls.get(i).accept(x);
            Check.isTrue("27: call " + i + " changes something", !Check.picture(x).equals(before));
            Check.same("27: call " + i, x.undo(), 3);
            calls.get(i).accept(x);
            x.undo();
            BoatRuns same = sample();
            same.undo();
            Check.same("27: call " + i + ", undone", Check.picture(x), Check.picture(afterUndo(same)));
        }
    }

    /** Two runs, a parcel ashore, an open run, parcels in the boat, four saved states and a text. */
    private static BoatRuns sample() {
        BoatRuns x = new BoatRuns();
        x.begin(2);
        Check.makeRun(x, 2, 40, 50);
        Check.makeRun(x, 3, 10, 60);
        Check.loadKeys(x, 30, 20, 25, 70);
        Check.write(x, "s9;l;");
        return x;
    }

    /** The state before the last load, with that load made again by other words. */
    private static BoatRuns afterUndo(BoatRuns x) {
        Check.write(x, "p70,1;");
        x.carryOut();
        Check.write(x, "s9;l;");
        x.begin(5);
        x.undo();
        return x;
    }

    private static void fourStatesAreSaved() {
        BoatRuns x = new BoatRuns();
        Check.loadKeys(x, 1, 2, 3, 4, 5, 6);
        for (int left = 3; left >= 0; left--) {
            Check.same("27: undo", x.undo(), left);
            Check.same("27: parcels then", x.value(2), left + 2);
        }
        Check.refused("27: the oldest ones were dropped", x, Check.STATE, x::undo);
        Check.same("27: parcels at last", x.value(2), 2);
    }

    private static void undoAfterUndo() {
        BoatRuns x = new BoatRuns();
        Check.loadKeys(x, 1, 2, 3);
        x.undo();
        x.load(9, 9);
        Check.same("27: three saved states", x.undo(), 2);
        Check.same("27: two parcels", x.value(2), 2);
        x.load(8, 8);
        x.load(7, 7);
        x.load(6, 6);
        for (int parcels = 4; parcels >= 1; parcels--) {
            x.undo();
            Check.same("27: parcels", x.value(2), parcels);
        }
        Check.refused("27: no more", x, Check.STATE, x::undo);
    }

    private static void undoKeepsTheText() {
        BoatRuns x = new BoatRuns();
        Check.write(x, "e;");
        x.load(1, 1);
        Check.write(x, "p5,5;p6,6;");
        x.undo();
        Check.same("27: the text stays", x.carryOut(), 2);
        Check.same("27: its orders were carried out", x.value(2), 2);
    }

    private static void undoRestoresNumbers() {
        BoatRuns x = new BoatRuns();
        Check.makeRun(x, 1, 10, 20);
        x.storm(9);
        x.undo();
        Check.makeRun(x, 1, 5);
        Check.same("27: the number is free again", Check.runs(x), "0 1");
        x.mergeLightest();
        x.undo();
        Check.same("27: merges and costs", Check.values(x), "4 0 3 2 3 0 0 0 0 0 -1 2");
        BoatRuns room = new BoatRuns();
        room.begin(1);
        room.begin(9);
        room.undo();
        Check.same("27: the room", room.value(0), 1);
        room.undo();
        Check.same("27: the first room", room.value(0), 4);
    }

    private static void undoRefused() {
        BoatRuns x = new BoatRuns();
        Check.refused("27: nothing saved", x, Check.STATE, x::undo);
        Check.refused("27: a call that throws", x, Check.ARGUMENT, () -> x.load(1, 0));
        Check.refused("27: saves nothing", x, Check.STATE, x::undo);
    }

    private static void digestOfANewObject() {
        Check.same("28: a new object", new BoatRuns().digest(),
                hash(0, 4, 0, 0, 0, 0, 0, 0, 0, 0, 0, -1, 0, -1, 0, 0));
    }

    private static void digestOfASample() {
        BoatRuns x = new BoatRuns();
        x.begin(1);
        x.load(30, 7);
        x.load(10, 8);
        x.land(0);
        x.load(20, 9);
        x.load(15, 6);
        x.storm(2);
        x.load(40, 5);
        x.append('e');
        Check.same("28: a sample", x.digest(), hash(1,
                1, 1, 5, 2, 3, 1, 0, 0, 1, 0, 2, 3,
                30, 7, 2, -1, 0,
                10, 8, 1, 1, 0,
                20, 9, 1, 1, 1,
                15, 6, 1, 2, 0,
                40, 5, 0, -1, -1,
                1, 2, 17, 4, 10, 20, 0,
                2, 1, 6, 5, 15, 15, 1,
                4, 23, 4));
    }

    private static long hash(long... values) {
        long h = 3691;
        for (long v : values) {
            h = 31 * h + v;
        }
        return h;
    }

    private static void digestTellsStatesApart() {
        BoatRuns x = new BoatRuns();
        long fresh = x.digest();
        x.append('e');
        Check.isTrue("28: the text's length", x.digest() != fresh);
        x.clearText();
        Check.same("28: no text again", x.digest(), fresh);
        x.empty();
        Check.isTrue("28: the saved states", x.digest() != fresh);
        x.undo();
        Check.same("28: undone", x.digest(), fresh);
    }
}
