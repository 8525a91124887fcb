import java.math.BigInteger;
import java.util.function.Consumer;
import java.util.function.Supplier;

/** Boundaries of the terms on undo and exceptions, of "Undoable.", and of promises 27 and 28. */
final class StateBoundaries {
    private StateBoundaries() {
    }

    static void check() {
        undoableCalls();
        callsThatChangeNothing();
        callsThatAreNotUndoable();
        fourStates();
        everythingButTheText();
        numbersOfFloatsAndParcels();
        undoablePromises();
        refusedCallsChangeNothing();
        refusedCallsOfAFullObject();
        theFirstException();
        mostRecentState();
        undoIsNotUndoable();
        statesThatRemain();
        noSavedState();
        digests();
        overflow();
        digestOfEachValue();
        Doc.noBoundary(28, "Returns a hash of the state.");
    }

    /** All but the text and the number of saved states. */
    private static String listing(BoatRuns x) {
        StringBuilder all = new StringBuilder(Check.values(x));
        for (int p = 0; p < x.value(2); p++) {
            all.append('|').append(Check.parcel(x, p));
        }
        for (String run : Check.runs(x).split(" ")) {
            if (!run.isEmpty()) {
                int number = Integer.parseInt(run);
                all.append("|run ").append(Check.run(x, number)).append(": ").append(Check.row(x, number));
            }
        }
        return all.append("|ashore ").append(Check.shore(x)).toString();
    }

    // ---- the terms on undo

    private static void undoableCalls() {
        Doc.about("Terms, Undo", "Each successful call of a method whose description says \"undoable\" saves the state from "
                + "before the call, even if the call changes nothing; at most 4 states are saved, and the oldest is "
                + "dropped first.");
        savesOne("begin", BoatRuns::new, x -> x.begin(12));
        savesOne("load", BoatRuns::new, x -> x.load(1, 1));
        savesOne("loadDrawn", BoatRuns::new, x -> x.loadDrawn(1, 60, 1));
        savesOne("empty", BoatRuns::new, x -> x.empty());
        savesOne("storm", BoatRuns::new, x -> x.storm(1));
        savesOne("carryOut", () -> written("p1,1;p2,2;e;"), x -> x.carryOut());
        savesOneMore("merge", x -> x.merge(1, 2));
        savesOneMore("mergeLightest", x -> x.mergeLightest());
        savesOneMore("tighten", x -> x.tighten(1));
        savesOneMore("land", x -> x.land(1));
    }

    private static BoatRuns written(String text) {
        BoatRuns x = new BoatRuns();
        Check.write(x, text);
        return x;
    }

    /** On an object without saved states. */
    private static void savesOne(String what, Supplier<BoatRuns> made, Consumer<BoatRuns> call) {
        BoatRuns x = made.get();
        String before = listing(x);
        call.accept(x);
        Check.same(what + ", one saved state", x.undo(), 0);
        Check.same(what + ", that of before", listing(x), before);
        Check.refused(what + ", no more", x, Check.STATE, x::undo);
    }

    /** On an object with one saved state less than there can be. */
    private static void savesOneMore(String what, Consumer<BoatRuns> call) {
        BoatRuns x = Check.busy();
        x.undo();
        String before = listing(x);
        call.accept(x);
        Check.isTrue(what + " changes something", !listing(x).equals(before));
        Check.same(what + ", one saved state more", x.undo(), 3);
        Check.same(what + ", that of before", listing(x), before);
    }

    private static void callsThatChangeNothing() {
        savesOne("begin(4) at first", BoatRuns::new, x -> x.begin(4));
        savesOne("empty() of an empty boat", BoatRuns::new, x -> x.empty());
        savesOne("carryOut() of no orders", BoatRuns::new, x -> x.carryOut());
        savesOne("carryOut() of an order that throws", () -> written("l;"), x -> x.carryOut());
        BoatRuns full = Check.loaded(120);
        long two = full.digest();
        Check.same("loadDrawn of none", full.loadDrawn(1, 60, 1), 0);
        // The number of saved states is the last value in the hash.
        Check.same("loadDrawn of none, only a saved state is new", full.digest(), two + 1);
        Check.same("loadDrawn of none, saved", full.undo(), 2);
        Check.same("loadDrawn of none, undone", full.digest(), two);
        BoatRuns strong = Check.busy();
        for (int i = 0; i < 4; i++) {
            strong.tighten(2);
        }
        String tight = listing(strong);
        Check.same("tighten at 9", strong.tighten(2), 9);
        Check.same("tighten at 9, the state", listing(strong), tight);
        Check.same("tighten at 9, saved", strong.undo(), 3);
        Check.same("tighten at 9, undone", listing(strong), tight);
    }

    private static void callsThatAreNotUndoable() {
        BoatRuns x = Check.busy();
        x.undo();
        Check.same("two saved states", x.undo(), 2);
        x.append('e');
        x.clearText();
        x.append('x');
        x.carryOut();
        x.parcel(0, 0);
        x.run(1, 0);
        x.inRun(1, 0);
        x.ashore(0);
        x.runAt(0);
        x.value(0);
        x.nextThrown();
        x.runsIfEmptied();
        x.costByWeight();
        x.costByNumber();
        x.runsWith(1);
        x.leastRoom();
        x.inversions();
        x.digest();
        Check.thrown(() -> x.load(-1, 1));
        Check.thrown(() -> x.storm(0));
        Check.thrown(() -> x.tighten(9));
        Check.same("still two", x.undo(), 1);
    }

    private static void fourStates() {
        for (int calls = 0; calls <= 9; calls++) {
            BoatRuns x = new BoatRuns();
            for (int key = 1; key <= calls; key++) {
                x.load(key, 1);
            }
            int saved = Math.min(calls, 4);
            for (int left = saved - 1; left >= 0; left--) {
                Check.same(calls + " calls, those that remain", x.undo(), left);
                Check.same(calls + " calls, the parcels then", x.value(2), calls - saved + left);
            }
            Check.refused(calls + " calls, no more", x, Check.STATE, x::undo);
            Check.same(calls + " calls, the oldest that was kept", x.value(2), calls - saved);
        }
        BoatRuns mixed = new BoatRuns();
        mixed.begin(1);
        mixed.load(1, 1);
        mixed.storm(1);
        mixed.empty();
        mixed.carryOut();
        Check.same("five of several methods", mixed.undo(), 3);
        mixed.undo();
        mixed.undo();
        Check.same("the first but one is kept", mixed.undo(), 0);
        Check.same("the first was dropped", Check.values(mixed), "1 0 0 0 0 0 0 0 0 0 -1 0");
    }

    private static void everythingButTheText() {
        Doc.about("Terms, Undo", "The saved state contains everything except the text.");
        BoatRuns x = Check.busy();
        x.merge(1, 2);
        x.storm(6);
        x.tighten(1);
        String before = listing(x);
        x.begin(12);
        x.undo();
        Check.same("all of a boat behind begin", listing(x), before);
        Check.write(x, "p5,5;e;s9;s9;l;p6,6;p7,7;p8,8;e;");
        Check.same("nine orders", x.carryOut(), 9);
        Check.isTrue("they change something", !listing(x).equals(before));
        x.undo();
        Check.same("all of a boat behind orders", listing(x), before);
        Check.same("the text isn't undone", x.clearText(), 32);
        BoatRuns text = written("e;");
        text.load(1, 1);
        text.append('e');
        text.append(';');
        text.undo();
        Check.same("what is appended stays", text.carryOut(), 2);
        text.clearText();
        text.undo();
        Check.same("what is cleared doesn't come back", text.clearText(), 0);
    }

    private static void numbersOfFloatsAndParcels() {
        BoatRuns x = new BoatRuns();
        Check.makeRun(x, 1, 10, 20);
        x.storm(9);
        x.undo();
        Check.same("the floats used", x.value(11), 1);
        x.load(30, 1);
        x.empty();
        Check.same("the number is used first now", Check.runs(x), "0 1");
        Check.same("it is that of the new run", Check.row(x, 1), "2");
        x.undo();
        x.undo();
        x.load(40, 7);
        Check.same("the number of the parcel, too", Check.parcel(x, 2), "40 7 0 -1 -1");
    }

    private static void undoablePromises() {
        undoable(2, x -> x.begin(3));
        undoable(3, x -> x.load(999, 1));
        undoable(4, x -> x.loadDrawn(5, 10, 1000));
        undoable(5, x -> x.empty());
        undoable(6, x -> x.merge(2, 1));
        undoable(7, x -> x.mergeLightest());
        undoable(8, x -> x.storm(9));
        undoable(9, x -> x.tighten(2));
        undoable(10, x -> x.land(2));
    }

    /** On an object with four saved states: the oldest goes, and as many remain. */
    private static void undoable(int promise, Consumer<BoatRuns> call) {
        Doc.promise(promise, "Undoable.");
        BoatRuns x = Check.busy();
        String before = listing(x);
        call.accept(x);
        Check.isTrue("it changes something", !listing(x).equals(before));
        Check.same("four saved states, one is taken back", x.undo(), 3);
        Check.same("all is as before", listing(x), before);
        Check.same("the text, too", x.clearText(), 9);
        x.undo();
        x.undo();
        Check.same("the last one", x.undo(), 0);
        Check.same("the oldest was dropped", x.value(2), 5);
    }

    // ---- the terms on exceptions

    private static void refusedCallsChangeNothing() {
        Doc.about("Terms, Exceptions", "A call that throws an exception changes nothing.");
        for (int made = 0; made < 2; made++) {
            Supplier<BoatRuns> one = made == 0 ? BoatRuns::new : Check::busy;
            Check.refusedOn("begin", one, Check.ARGUMENT, x -> x.begin(13));
            Check.refusedOn("load, key", one, Check.ARGUMENT, x -> x.load(1000, 50));
            Check.refusedOn("load, weight", one, Check.ARGUMENT, x -> x.load(999, 51));
            Check.refusedOn("loadDrawn, seed", one, Check.ARGUMENT, x -> x.loadDrawn(1000000, 60, 1000));
            Check.refusedOn("loadDrawn, parcels", one, Check.ARGUMENT, x -> x.loadDrawn(999999, 61, 1000));
            Check.refusedOn("loadDrawn, range", one, Check.ARGUMENT, x -> x.loadDrawn(999999, 60, 1001));
            Check.refusedOn("merge, first", one, Check.ELEMENT, x -> x.merge(3, 1));
            Check.refusedOn("merge, second", one, Check.ELEMENT, x -> x.merge(1, 3));
            Check.refusedOn("storm", one, Check.ARGUMENT, x -> x.storm(10));
            Check.refusedOn("tighten", one, Check.ELEMENT, x -> x.tighten(3));
            Check.refusedOn("land", one, Check.ELEMENT, x -> x.land(3));
            Check.refusedOn("parcel", one, Check.INDEX, x -> x.parcel(8, 0));
            Check.refusedOn("run", one, Check.ELEMENT, x -> x.run(3, 0));
            Check.refusedOn("inRun", one, Check.ELEMENT, x -> x.inRun(3, 0));
            Check.refusedOn("ashore", one, Check.INDEX, x -> x.ashore(2));
            Check.refusedOn("runAt", one, Check.INDEX, x -> x.runAt(2));
            Check.refusedOn("value", one, Check.ARGUMENT, x -> x.value(12));
            Check.refusedOn("runsWith", one, Check.ARGUMENT, x -> x.runsWith(121));
            Check.refusedOn("append", one, Check.ARGUMENT, x -> x.append(128));
        }
        Check.refusedOn("merge, the same", Check::busy, Check.ARGUMENT, x -> x.merge(1, 1));
        Check.refusedOn("parcel, what", Check::busy, Check.ARGUMENT, x -> x.parcel(7, 5));
        Check.refusedOn("run, what", Check::busy, Check.ARGUMENT, x -> x.run(2, 6));
        Check.refusedOn("inRun, place", Check::busy, Check.INDEX, x -> x.inRun(2, 2));
        Check.refusedOn("mergeLightest", BoatRuns::new, Check.STATE, x -> x.mergeLightest());
        Check.refusedOn("undo", BoatRuns::new, Check.STATE, x -> x.undo());
        Check.refusedOn("undo of what is written", () -> written("e;"), Check.STATE, x -> x.undo());
    }

    private static void refusedCallsOfAFullObject() {
        Supplier<BoatRuns> full = () -> {
            BoatRuns x = Check.loaded(120);
            Check.write(x, "e;".repeat(48) + "l;s9");
            return x;
        };
        Check.refusedOn("load", full, Check.STATE, x -> x.load(1, 1));
        Check.refusedOn("append", full, Check.STATE, x -> x.append(';'));
        Check.refusedOn("parcel", full, Check.INDEX, x -> x.parcel(120, 0));
        Supplier<BoatRuns> landed = () -> {
            BoatRuns x = Check.busy();
            x.land(2);
            return x;
        };
        Check.refusedOn("land", landed, Check.STATE, x -> x.land(1));
    }

    private static void theFirstException() {
        Doc.about("Terms, Exceptions", "If several exceptions apply, the one that is listed first is thrown.");
        Supplier<BoatRuns> full = () -> Check.loaded(120);
        Check.refusedOn("load, key and 120 parcels", full, Check.ARGUMENT, x -> x.load(1000, 1));
        Check.refusedOn("load, weight and 120 parcels", full, Check.ARGUMENT, x -> x.load(1, 51));
        Check.refusedOn("merge, no run twice", Check::busy, Check.ELEMENT, x -> x.merge(0, 0));
        Check.refusedOn("merge, -1 twice", BoatRuns::new, Check.ELEMENT, x -> x.merge(-1, -1));
        Check.refusedOn("parcel and what", Check::busy, Check.INDEX, x -> x.parcel(8, 5));
        Check.refusedOn("parcel and what, below", Check::busy, Check.INDEX, x -> x.parcel(-1, -1));
        Check.refusedOn("run and what", Check::busy, Check.ELEMENT, x -> x.run(0, 6));
        Check.refusedOn("run and what, below", Check::busy, Check.ELEMENT, x -> x.run(-1, -1));
        Check.refusedOn("run and place", Check::busy, Check.ELEMENT, x -> x.inRun(0, 2));
        Check.refusedOn("run and place, below", Check::busy, Check.ELEMENT, x -> x.inRun(-1, -1));
        Check.refusedOn("land, no run, behind others", Check::busy, Check.ELEMENT, x -> x.land(0));
        Supplier<BoatRuns> text = () -> written("e;".repeat(50));
        Check.refusedOn("append, value and 100 bytes", text, Check.ARGUMENT, x -> x.append(128));
        Check.refusedOn("append, value below and 100 bytes", text, Check.ARGUMENT, x -> x.append(-1));
    }

    // ---- promise 27

    private static void mostRecentState() {
        Doc.promise(27, "Restores the most recently saved state and removes it from the saved states.");
        BoatRuns x = new BoatRuns();
        x.load(1, 1);
        x.load(2, 2);
        String two = listing(x);
        x.storm(5);
        String stormy = listing(x);
        x.empty();
        x.undo();
        Check.same("before empty", listing(x), stormy);
        x.undo();
        Check.same("before the storm", listing(x), two);
        x.load(3, 3);
        x.undo();
        Check.same("before the new load", listing(x), two);
        x.undo();
        Check.same("before the second load", x.value(2), 1);
        x.undo();
        Check.same("at first", Check.values(x), Check.values(new BoatRuns()));
    }

    private static void undoIsNotUndoable() {
        BoatRuns x = new BoatRuns();
        for (int i = 0; i < 5; i++) {
            x.load(i, 1);
        }
        x.undo();
        x.undo();
        Check.same("it goes back, not to and fro", x.value(2), 3);
        for (int i = 0; i < 2; i++) {
            x.load(i, 1);
        }
        Check.same("five parcels", x.value(2), 5);
        for (int parcels = 4; parcels >= 1; parcels--) {
            x.undo();
            Check.same("four states, old and new", x.value(2), parcels);
        }
        Check.refused("none is left", x, Check.STATE, x::undo);
    }

    private static void statesThatRemain() {
        Doc.promise(27, "Returns the number of saved states that remain.");
        BoatRuns x = new BoatRuns();
        x.empty();
        Check.same("of one", x.undo(), 0);
        x.empty();
        x.empty();
        Check.same("of two", x.undo(), 1);
        x.empty();
        x.empty();
        Check.same("of three", x.undo(), 2);
        x.empty();
        x.empty();
        Check.same("of four", x.undo(), 3);
        x.empty();
        x.empty();
        Check.same("of five, of which four are kept", x.undo(), 3);
        Check.same("of three again", x.undo(), 2);
        Check.same("of two again", x.undo(), 1);
        Check.same("of one again", x.undo(), 0);
    }

    private static void noSavedState() {
        Doc.promise(27, "Throws `IllegalStateException` if there is no saved state");
        Check.refusedOn("at first", BoatRuns::new, Check.STATE, BoatRuns::undo);
        Supplier<BoatRuns> undone = () -> {
            BoatRuns x = Check.busy();
            for (int i = 0; i < 4; i++) {
                x.undo();
            }
            return x;
        };
        Check.refusedOn("after four", undone, Check.STATE, BoatRuns::undo);
        Check.refusedOn("after a refused call", () -> {
            BoatRuns x = new BoatRuns();
            Check.thrown(() -> x.begin(0));
            Check.thrown(x::undo);
            return x;
        }, Check.STATE, BoatRuns::undo);
        Check.refusedOn("after a syntax error", () -> {
            BoatRuns x = written("x");
            x.carryOut();
            return x;
        }, Check.STATE, BoatRuns::undo);
        BoatRuns one = new BoatRuns();
        one.begin(4);
        Check.same("with one", one.undo(), 0);
        BoatRuns last = undone.get();
        last.empty();
        Check.same("with one again", last.undo(), 0);
    }

    // ---- promise 28

    private static BigInteger unbounded(BoatRuns x, int length, int saved) {
        BigInteger h = mixed(BigInteger.valueOf(3691), length);
        for (int what = 0; what < 12; what++) {
            h = mixed(h, x.value(what));
        }
        for (int p = 0; p < x.value(2); p++) {
            for (String fact : Check.parcel(x, p).split(" ")) {
                h = mixed(h, Integer.parseInt(fact));
            }
        }
        for (int i = 0; i < x.value(3); i++) {
            int run = x.runAt(i);
            h = mixed(h, run);
            for (String fact : Check.run(x, run).split(" ")) {
                h = mixed(h, Integer.parseInt(fact));
            }
        }
        h = mixed(h, x.nextThrown());
        h = mixed(h, x.costByWeight());
        return mixed(h, saved);
    }

    private static BigInteger mixed(BigInteger h, int v) {
        return h.multiply(BigInteger.valueOf(31)).add(BigInteger.valueOf(v));
    }

    private static void digests() {
        Doc.promise(28, "Start with h = 3691 and, for each of the following values v, set h = 31 * h + v: the length of the "
                + "text; value() for 0 to 11; for each parcel that was loaded the values of parcel() for what = 0 to "
                + "4; for each run, in ascending order, its number and the values of run() for what = 0 to 5; "
                + "nextThrown(); costByWeight(); the number of saved states.");
        BoatRuns first = new BoatRuns();
        Check.same("at first", first.digest(), unbounded(first, 0, 0).longValue());
        BoatRuns one = new BoatRuns();
        one.load(0, 1);
        Check.same("one parcel", one.digest(), unbounded(one, 0, 1).longValue());
        one.empty();
        Check.same("one run", one.digest(), unbounded(one, 0, 2).longValue());
        BoatRuns busy = Check.busy();
        Check.same("parcels in all places", busy.digest(), unbounded(busy, 9, 4).longValue());
        busy.begin(1);
        Check.same("another boat", busy.digest(), unbounded(busy, 9, 4).longValue());
        BoatRuns text = written("e".repeat(100));
        Check.same("100 bytes", text.digest(), unbounded(text, 100, 0).longValue());
    }

    private static void overflow() {
        Doc.promise(28, "Returns the hash, with the overflow of long arithmetic ignored.");
        for (int parcels : new int[] {0, 1, 2, 60}) {
            BoatRuns x = Check.loaded(parcels);
            x.storm(1);
            int saved = 1 + (parcels + 59) / 60;
            BigInteger hash = unbounded(x, 0, saved);
            Check.isTrue("it is beyond a long", hash.bitLength() > 63);
            Check.same(parcels + " parcels", x.digest(), hash.longValue());
        }
        boolean below = false;
        boolean above = false;
        BoatRuns x = new BoatRuns();
        for (int i = 0; i < 40; i++) {
            x.append('e');
            below |= x.digest() < 0;
            above |= x.digest() > 0;
        }
        Check.isTrue("both signs", below && above);
    }

    private static void digestOfEachValue() {
        Doc.promise(28, "Returns the hash, with the overflow of long arithmetic ignored.");
        BoatRuns x = Check.busy();
        long before = x.digest();
        Check.same("again", x.digest(), before);
        x.append('e');
        Check.isTrue("one byte more", x.digest() != before);
        x.clearText();
        Check.write(x, "x".repeat(9));
        Check.same("only the length of the text counts", x.digest(), before);
        x.undo();
        x.load(85, 6);
        Check.same("the same state by another way", x.digest(), before);
    }
}
