import java.util.NoSuchElementException;

/** What the tests share: comparing answers, expecting exceptions, and telling the result. */
final class Check {
    static final Class<?> ARGUMENT = IllegalArgumentException.class;
    static final Class<?> STATE = IllegalStateException.class;
    static final Class<?> INDEX = IndexOutOfBoundsException.class;
    static final Class<?> ELEMENT = NoSuchElementException.class;

    private static int wrong = 0;
    private static int checks = 0;

    interface Call {
        void run();
    }

    private Check() {
    }

    static void same(String what, long got, long due) {
        checks++;
        if (got != due) {
            wrong++;
            System.out.println(what + " answered " + got + ", due is " + due);
        }
    }

    static void same(String what, String got, String due) {
        checks++;
        if (!got.equals(due)) {
            wrong++;
            System.out.println(what + " answered " + got + ", due is " + due);
        }
    }

    static void isTrue(String what, boolean holds) {
        same(what, holds ? 1 : 0, 1);
    }

    /** The call throws exactly this exception, and changes nothing. */
    static void refused(String what, BoatRuns x, Class<?> due, Call call) {
        String before = picture(x);
        same(what, thrown(call), due.getSimpleName());
        same(what + ", the state then", picture(x), before);
    }

    static String thrown(Call call) {
        try {
            call.run();
            return "nothing";
        } catch (RuntimeException e) {
            return e.getClass().getSimpleName();
        }
    }

    /** All that can be seen of an object without changing it. */
    static String picture(BoatRuns x) {
        StringBuilder all = new StringBuilder();
        all.append(x.digest()).append('|').append(values(x)).append('|');
        for (int p = 0; p < x.value(2); p++) {
            all.append(parcel(x, p)).append(';');
        }
        for (int i = 0; i < x.value(3); i++) {
            int run = x.runAt(i);
            all.append('|').append(run).append(':').append(run(x, run)).append(' ').append(row(x, run));
        }
        all.append('|').append(shore(x)).append('|').append(x.nextThrown());
        all.append(' ').append(x.runsIfEmptied()).append(' ').append(x.costByWeight());
        all.append(' ').append(x.costByNumber()).append(' ').append(x.runsWith(1));
        all.append(' ').append(x.leastRoom()).append(' ').append(x.inversions());
        return all.toString();
    }

    static String values(BoatRuns x) {
        return joined(12, what -> x.value(what));
    }

    static String parcel(BoatRuns x, int parcel) {
        return joined(5, what -> x.parcel(parcel, what));
    }

    static String run(BoatRuns x, int run) {
        return joined(6, what -> x.run(run, what));
    }

    /** The numbers of the parcels of a run. */
    static String row(BoatRuns x, int run) {
        return joined(x.run(run, 0), place -> x.inRun(run, place));
    }

    static String shore(BoatRuns x) {
        return joined(x.value(5), place -> x.ashore(place));
    }

    static String runs(BoatRuns x) {
        return joined(x.value(3), index -> x.runAt(index));
    }

    private static String joined(int count, java.util.function.IntUnaryOperator answer) {
        StringBuilder all = new StringBuilder();
        for (int i = 0; i < count; i++) {
            all.append(i == 0 ? "" : " ").append(answer.applyAsInt(i));
        }
        return all.toString();
    }

    /** Loads parcels of weight 1 with these keys. */
    static void loadKeys(BoatRuns x, int... keys) {
        for (int key : keys) {
            x.load(key, 1);
        }
    }

    /** Makes one closed run of parcels with these keys, all of one weight. */
    static void makeRun(BoatRuns x, int weight, int... keys) {
        for (int key : keys) {
            x.load(key, weight);
        }
        x.empty();
    }

    static void write(BoatRuns x, String text) {
        x.clearText();
        for (int i = 0; i < text.length(); i++) {
            x.append(text.charAt(i));
        }
    }

    static int carryOut(BoatRuns x, String text) {
        write(x, text);
        return x.carryOut();
    }

    static void finish() {
        System.out.println(checks + " checks, " + wrong + " wrong");
        if (wrong != 0 || checks == 0) {
            System.exit(1);
        }
    }
}
