import java.util.NoSuchElementException;
import java.util.function.Consumer;
import java.util.function.Supplier;

/** What the tests share: comparing answers, expecting exceptions, and telling the result. */
final class Check {
    static final Class<?> ARGUMENT = IllegalArgumentException.class;
    static final Class<?> STATE = IllegalStateException.class;
    static final Class<?> INDEX = IndexOutOfBoundsException.class;
    static final Class<?> ELEMENT = NoSuchElementException.class;

    private static int wrong = 0;
    private static int checks = 0;

    interface Call {
        void run();
    }

    interface IntCall {
        void run(BoatRuns x, int argument);
    }

    private Check() {
    }

    static void same(String what, long got, long due) {
        checks++;
        if (got != due) {
            wrong++;
            System.out.println(Doc.named() + what + " answered " + got + ", due is " + due);
        }
    }

    static void same(String what, String got, String due) {
        checks++;
        if (!got.equals(due)) {
            wrong++;
            System.out.println(Doc.named() + what + " answered " + got + ", due is " + due);
        }
    }

    static void isTrue(String what, boolean holds) {
        same(what, holds ? 1 : 0, 1);
    }

    /** The call throws exactly this exception, and changes nothing. */
    static void refused(String what, BoatRuns x, Class<?> due, Call call) {
        String before = picture(x);
        same(what, thrown(call), due.getSimpleName());
        same(what + ", the state then", picture(x), before);
    }

    static String thrown(Call call) {
        try {
            call.run();
            return "nothing";
        } catch (RuntimeException e) {
            return e.getClass().getSimpleName();
        }
    }

    /** What can be seen of an object without changing it; the digest takes in every parcel and every run. */
    static String picture(BoatRuns x) {
        return x.digest() + "|" + values(x) + "|" + x.runsIfEmptied() + " " + x.costByNumber() + " "
                + x.runsWith(1) + " " + x.leastRoom() + " " + x.inversions();
    }

    /** All of an object, down to the saved states and what stands in the text. It is spent then. */
    static String story(BoatRuns x) {
        StringBuilder all = new StringBuilder(picture(x));
        boolean saved = true;
        while (saved) {
            saved = thrown(x::undo).equals("nothing");
            all.append("|undo: ").append(picture(x));
        }
        all.append("|text: ").append(x.carryOut()).append(' ').append(picture(x));
        return all.append(' ').append(x.clearText()).toString();
    }

    /** On an object made so, the call throws exactly this exception, and nothing at all is changed. */
    static void refusedOn(String what, Supplier<BoatRuns> made, Class<?> due, Consumer<BoatRuns> call) {
        BoatRuns x = made.get();
        same(what, thrown(() -> call.accept(x)), due.getSimpleName());
        same(what + ", all of it then", story(x), story(made.get()));
    }

    /** The call takes a number from low to high, and refuses one that is just outside, or far out. */
    static void range(Supplier<BoatRuns> made, int low, int high, Class<?> due, IntCall call) {
        for (int inside : new int[] {low, Math.min(low + 1, high), Math.max(high - 1, low), high}) {
            BoatRuns x = made.get();
            same("with " + inside, thrown(() -> call.run(x, inside)), "nothing");
        }
        for (int outside : new int[] {low - 1, high + 1, -high - 1, Integer.MIN_VALUE, Integer.MAX_VALUE}) {
            refusedOn("with " + outside, made, due, x -> call.run(x, outside));
        }
    }

    static String values(BoatRuns x) {
        return joined(12, what -> x.value(what));
    }

    static String parcel(BoatRuns x, int parcel) {
        return joined(5, what -> x.parcel(parcel, what));
    }

    static String run(BoatRuns x, int run) {
        return joined(6, what -> x.run(run, what));
    }

    /** The numbers of the parcels of a run. */
    static String row(BoatRuns x, int run) {
        return joined(x.run(run, 0), place -> x.inRun(run, place));
    }

    static String shore(BoatRuns x) {
        return joined(x.value(5), place -> x.ashore(place));
    }

    static String runs(BoatRuns x) {
        return joined(x.value(3), index -> x.runAt(index));
    }

    private static String joined(int count, java.util.function.IntUnaryOperator answer) {
        StringBuilder all = new StringBuilder();
        for (int i = 0; i < count; i++) {
            all.append(i == 0 ? "" : " ").append(answer.applyAsInt(i));
        }
        return all.toString();
    }

    /** Loads parcels of weight 1 with these keys. */
    static void loadKeys(BoatRuns x, int... keys) {
        for (int key : keys) {
            x.load(key, 1);
        }
    }

    /** Makes one closed run of parcels with these keys, all of one weight. */
    static void makeRun(BoatRuns x, int weight, int... keys) {
        for (int key : keys) {
            x.load(key, weight);
        }
        x.empty();
    }

    static void write(BoatRuns x, String text) {
        x.clearText();
        for (int i = 0; i < text.length(); i++) {
            x.append(text.charAt(i));
        }
    }

    /** A boat of four with so many parcels loaded, at most 120, by few calls. */
    static BoatRuns loaded(int parcels) {
        BoatRuns x = new BoatRuns();
        for (int left = parcels; left > 0; left -= 60) {
            x.loadDrawn(parcels, Math.min(left, 60), 1000);
        }
        return x;
    }

    /**
     * A boat of two with parcels 6 and 7 in it, the open run 2 of parcels 5 and 4, run 1 of parcels 3
     * and 2, parcels 1 and 0 ashore, four saved states, and a text.
     */
    static BoatRuns busy() {
        BoatRuns x = new BoatRuns();
        x.begin(2);
        x.load(30, 7);
        x.load(10, 8);
        x.empty();
        x.land(0);
        x.load(60, 1);
        x.load(50, 2);
        x.empty();
        x.load(80, 3);
        x.load(40, 4);
        x.load(90, 5);
        x.load(85, 6);
        write(x, "p7,7;e;l;");
        return x;
    }

    static int carryOut(BoatRuns x, String text) {
        write(x, text);
        return x.carryOut();
    }

    static void finish() {
        System.out.println(checks + " checks, " + wrong + " wrong");
        if (wrong != 0 || checks == 0) {
            System.exit(1);
        }
    }
}
