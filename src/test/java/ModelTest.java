import java.util.ArrayList;
import java.util.LinkedList;
import java.util.List;
import java.util.NoSuchElementException;
import java.util.PriorityQueue;
import java.util.TreeMap;
import java.util.TreeSet;
import java.util.regex.Matcher;
import java.util.regex.Pattern;

/** Long drawn runs of calls, compared with a model that is written from the document in another way. */
public final class ModelTest {
    private static final int SESSIONS = 320;
    /** What an object answers after so many calls is free. */
    private static final int CALLS = 512;
    /** No drawn order needs more calls than this, together with a digest. */
    private static final int MOST_OF_A_STEP = 20;

    private static long drawn;
    /** The calls that the object of this session has had. */
    private static int calls;

    public static void main(String[] args) {
        for (int session = 0; session < SESSIONS; session++) {
            drawn = session * 7919L + 17;
            playSession(session);
        }
        Check.finish();
    }

    private static int draw(int bound) {
        drawn = drawn * 6364136223846793005L + 1442695040888963407L;
        return (int) ((drawn >>> 33) % bound);
    }

    private static void playSession(int session) {
        BoatRuns x = new BoatRuns();
        Model model = new Model();
        int digestsAmong = session % 2 == 0 ? 1 : 8;
        boolean right = true;
        calls = 0;
        while (right && calls < CALLS - MOST_OF_A_STEP) {
            right = step(session, x, model, digestsAmong);
        }
        while (right && calls < CALLS - 1) {
            String[] answers = new String[2];
            String name = drawChange(session % 4, x, model, answers);
            right = same(session, name, answers);
        }
        if (right) {
            sameDigest(session, "the last call", x, model);
            Check.same("calls of session " + session, calls, CALLS);
        }
    }

    private static boolean step(int session, BoatRuns x, Model model, int digestsAmong) {
        String[] answers = new String[2];
        String name = drawCall(session % 4, x, model, answers);
        boolean right = same(session, name, answers);
        return right && draw(digestsAmong) == 0 ? sameDigest(session, "digest after " + name, x, model) : right;
    }

    private static boolean same(int session, String name, String[] answers) {
        Check.same("session " + session + ", call " + calls + ", " + name, answers[0], answers[1]);
        return answers[0].equals(answers[1]);
    }

    private static boolean sameDigest(int session, String name, BoatRuns x, Model model) {
        String[] answers = new String[2];
        both(answers, x::digest, model::digest);
        return same(session, name, answers);
    }

    interface IntCall {
        long answer();
    }

    private static String answer(IntCall call) {
        try {
            return "" + call.answer();
        } catch (RuntimeException e) {
            return e.getClass().getSimpleName();
        }
    }

    private static void both(String[] answers, IntCall first, IntCall second) {
        calls++;
        answers[0] = answer(first);
        answers[1] = answer(second);
    }

    /** Now and then a number outside, mostly one of a run that is there. */
    private static int drawRun(Model m) {
        if (m.now.runs.isEmpty() || draw(12) == 0) {
            return draw(8) - 3 + (draw(2) == 0 ? 0 : m.now.floats - 2);
        }
        return new ArrayList<>(m.now.runs.keySet()).get(draw(m.now.runs.size()));
    }

    private static int around(int low, int high) {
        return draw(25) == 0 ? (draw(2) == 0 ? low - 1 - draw(2) : high + 1 + draw(2)) : low + draw(high - low + 1);
    }

    private static String drawCall(int kind, BoatRuns x, Model m, String[] answers) {
        int pick = draw(100);
        if (pick < 60) {
            return drawChange(kind, x, m, answers);
        }
        if (pick < 75) {
            return drawText(x, m, answers);
        }
        return drawQuestion(x, m, answers);
    }

    private static String drawChange(int kind, BoatRuns x, Model m, String[] answers) {
        int range = kind == 0 ? 1000 : kind == 1 ? 10 : 100;
        int pick = draw(60);
        if (pick < 22) {
            int key = draw(25) == 0 ? around(0, 999) : draw(range);
            int weight = kind == 2 ? 1 + draw(3) : around(1, 50);
            both(answers, () -> x.load(key, weight), () -> m.load(key, weight));
            return "load(" + key + ", " + weight + ")";
        }
        if (pick < 24) {
            int seed = draw(30) == 0 ? -1 + draw(2) * 1000001 : draw(1000000);
            int parcels = draw(4) == 0 ? around(1, 60) : 1 + draw(8);
            int keys = draw(4) == 0 ? around(1, 1000) : 1 + draw(range);
            both(answers, () -> x.loadDrawn(seed, parcels, keys), () -> m.loadDrawn(seed, parcels, keys));
            return "loadDrawn(" + seed + ", " + parcels + ", " + keys + ")";
        }
        if (pick < 28) {
            both(answers, x::empty, m::empty);
            return "empty()";
        }
        if (pick < 36) {
            int first = drawRun(m);
            int second = draw(10) == 0 ? first : drawRun(m);
            both(answers, () -> x.merge(first, second), () -> m.merge(first, second));
            return "merge(" + first + ", " + second + ")";
        }
        if (pick < 40) {
            both(answers, x::mergeLightest, m::mergeLightest);
            return "mergeLightest()";
        }
        if (pick < 44) {
            int force = around(1, 9);
            both(answers, () -> x.storm(force), () -> m.storm(force));
            return "storm(" + force + ")";
        }
        if (pick < 49) {
            int run = drawRun(m);
            both(answers, () -> x.tighten(run), () -> m.tighten(run));
            return "tighten(" + run + ")";
        }
        if (pick < 52) {
            int run = drawRun(m);
            both(answers, () -> x.land(run), () -> m.land(run));
            return "land(" + run + ")";
        }
        if (pick == 52 && draw(kind == 3 ? 1 : 4) == 0) {
            int room = around(1, 12);
            both(answers, () -> x.begin(room), () -> m.begin(room));
            return "begin(" + room + ")";
        }
        both(answers, x::undo, m::undo);
        return "undo()";
    }

    private static String drawText(BoatRuns x, Model m, String[] answers) {
        int pick = draw(15);
        if (pick < 3) {
            both(answers, x::clearText, m::clearText);
            return "clearText()";
        }
        if (pick < 8) {
            both(answers, x::carryOut, m::carryOut);
            return "carryOut() of \"" + m.text + "\"";
        }
        if (pick < 10) {
            int value = draw(3) == 0 ? around(0, 127) : "pelsm0123456789,;+".charAt(draw(18));
            both(answers, () -> x.append(value), () -> m.append(value));
            return "append(" + value + ")";
        }
        String order = drawOrder(m);
        for (int i = 0; i < order.length(); i++) {
            int value = order.charAt(i);
            both(answers, () -> x.append(value), () -> m.append(value));
        }
        return "append of \"" + order + "\"";
    }

    private static String drawOrder(Model m) {
        String order;
        switch (draw(7)) {
            case 0:
                order = "e;";
                break;
            case 1:
                order = "l;";
                break;
            case 2:
                order = "s" + draw(10) + ";";
                break;
            case 3:
                order = "m" + Math.max(0, drawRun(m)) + "+" + Math.max(0, drawRun(m)) + ";";
                break;
            case 4:
                order = "p" + "0".repeat(draw(3)) + draw(100) + "," + draw(70) + ";";
                break;
            default:
                order = "p" + draw(1000) + "," + (1 + draw(50)) + ";";
                break;
        }
        if (draw(8) == 0) {
            int at = draw(order.length());
            String put = draw(2) == 0 ? "" : "" + "pelsm0123456789,;+ ".charAt(draw(19));
            order = order.substring(0, at) + put + order.substring(at + draw(2));
        }
        return order;
    }

    private static String drawQuestion(BoatRuns x, Model m, String[] answers) {
        int run = drawRun(m);
        int what = draw(20) - 3;
        int parcel = draw(m.now.loaded.size() + 3) - 1;
        switch (draw(14)) {
            case 0:
                both(answers, () -> x.parcel(parcel, what / 2), () -> m.parcel(parcel, what / 2));
                return "parcel(" + parcel + ", " + what / 2 + ")";
            case 1:
                both(answers, () -> x.run(run, what / 2), () -> m.run(run, what / 2));
                return "run(" + run + ", " + what / 2 + ")";
            case 2:
                both(answers, () -> x.inRun(run, what), () -> m.inRun(run, what));
                return "inRun(" + run + ", " + what + ")";
            case 3:
                both(answers, () -> x.ashore(what), () -> m.ashore(what));
                return "ashore(" + what + ")";
            case 4:
                both(answers, () -> x.runAt(what), () -> m.runAt(what));
                return "runAt(" + what + ")";
            case 5:
                both(answers, () -> x.value(what), () -> m.value(what));
                return "value(" + what + ")";
            case 6:
                both(answers, x::nextThrown, m::nextThrown);
                return "nextThrown()";
            case 7:
                both(answers, x::runsIfEmptied, m::runsIfEmptied);
                return "runsIfEmptied()";
            case 8:
                both(answers, x::costByWeight, m::costByWeight);
                return "costByWeight()";
            case 9:
                both(answers, x::costByNumber, m::costByNumber);
                return "costByNumber()";
            case 10:
                int room = around(1, 120);
                both(answers, () -> x.runsWith(room), () -> m.runsWith(room));
                return "runsWith(" + room + ")";
            case 11:
                both(answers, x::leastRoom, m::leastRoom);
                return "leastRoom()";
            case 12:
                both(answers, x::inversions, m::inversions);
                return "inversions()";
            default:
                return allRows(x, m, answers);
        }
    }

    private static String allRows(BoatRuns x, Model m, String[] answers) {
        int needed = 2 + m.now.runs.size() + m.now.shore.size();
        for (Run run : m.now.runs.values()) {
            needed += 2 + run.row.size();
        }
        if (calls + needed > CALLS - MOST_OF_A_STEP) {
            both(answers, x::inversions, m::inversions);
            return "inversions()";
        }
        calls += needed;
        StringBuilder got = new StringBuilder(Check.runs(x) + "/" + Check.shore(x));
        StringBuilder due = new StringBuilder(told(m.now.runs.keySet()) + "/" + told(m.now.shore));
        for (int run : m.now.runs.keySet()) {
            got.append('/').append(answer(() -> x.run(run, 0)).length() > 5 ? "none" : Check.row(x, run));
            due.append('/').append(told(m.now.runs.get(run).row));
        }
        answers[0] = got.toString();
        answers[1] = due.toString();
        return "all rows";
    }

    private static String told(Iterable<?> things) {
        StringBuilder all = new StringBuilder();
        for (Object thing : things) {
            all.append(all.length() == 0 ? "" : " ");
            all.append(thing instanceof Parcel ? ((Parcel) thing).number : thing);
        }
        return all.toString();
    }

    /** A parcel never changes; where it is, the rows tell. */
    static final class Parcel implements Comparable<Parcel> {
        final int number;
        final int key;
        final int weight;

        Parcel(int number, int key, int weight) {
            this.number = number;
            this.key = key;
            this.weight = weight;
        }

        @Override
        public int compareTo(Parcel other) {
            return key != other.key ? Integer.compare(key, other.key) : Integer.compare(number, other.number);
        }
    }

    static final class Run {
        int strength = 5;
        TreeSet<Parcel> row = new TreeSet<>();

        int weight() {
            int sum = 0;
            for (Parcel parcel : row) {
                sum += parcel.weight;
            }
            return sum;
        }

        Run twin() {
            Run run = new Run();
            run.strength = strength;
            run.row.addAll(row);
            return run;
        }
    }

    static final class World {
        int room = 4;
        List<Parcel> loaded = new ArrayList<>();
        TreeSet<Parcel> boat = new TreeSet<>();
        TreeMap<Integer, Run> runs = new TreeMap<>();
        TreeSet<Parcel> shore = new TreeSet<>();
        int open = -1;
        int floats;
        int costs;
        int merges;
        int storms;
        int broken;

        World twin() {
            World w = new World();
            w.room = room;
            w.loaded.addAll(loaded);
            w.boat.addAll(boat);
            for (int number : runs.keySet()) {
                w.runs.put(number, runs.get(number).twin());
            }
            w.shore.addAll(shore);
            w.open = open;
            w.floats = floats;
            w.costs = costs;
            w.merges = merges;
            w.storms = storms;
            w.broken = broken;
            return w;
        }

        Parcel next() {
            if (boat.isEmpty()) {
                return null;
            }
            Parcel fitting = open < 0 ? null : boat.higher(runs.get(open).row.last());
            return fitting != null ? fitting : boat.first();
        }

        int throwOverboard() {
            Parcel parcel = next();
            boat.remove(parcel);
            if (open < 0 || parcel.compareTo(runs.get(open).row.last()) < 0) {
                open = floats++;
                runs.put(open, new Run());
            }
            runs.get(open).row.add(parcel);
            return open;
        }

        int load(int key, int weight) {
            int run = boat.size() == room ? throwOverboard() : -1;
            Parcel parcel = new Parcel(loaded.size(), key, weight);
            loaded.add(parcel);
            boat.add(parcel);
            return run;
        }

        int empty() {
            while (!boat.isEmpty()) {
                throwOverboard();
            }
            open = -1;
            return runs.size();
        }

        int merge(int first, int second) {
            Run kept = runs.get(Math.min(first, second));
            kept.row.addAll(runs.remove(Math.max(first, second)).row);
            open = open == first || open == second ? -1 : open;
            costs += kept.weight();
            merges++;
            return kept.weight();
        }

        int mergeLightest() {
            List<Integer> byWeight = new ArrayList<>(runs.keySet());
            byWeight.sort((a, b) -> Integer.compare(runs.get(a).weight(), runs.get(b).weight()));
            merge(byWeight.get(0), byWeight.get(1));
            return Math.min(byWeight.get(0), byWeight.get(1));
        }

        int storm(int force) {
            int count = 0;
            for (int number : new ArrayList<>(runs.keySet())) {
                Run run = runs.get(number);
                if (run.row.size() >= 2 && run.strength < force) {
                    List<Parcel> row = new ArrayList<>(run.row);
                    int staying = (row.size() + 1) / 2;
                    run.row = new TreeSet<>(row.subList(0, staying));
                    Run other = new Run();
                    other.row.addAll(row.subList(staying, row.size()));
                    runs.put(floats++, other);
                    count++;
                }
                run.strength = run.strength == 0 ? 0 : run.strength - 1;
            }
            open = -1;
            storms++;
            broken += count;
            return count;
        }
    }

    static final class Model {
        private static final Pattern ORDERS = Pattern.compile(
                "(p[0-9]{1,3},[0-9]{1,2};|e;|l;|s[1-9];|m[0-9]{1,3}\\+[0-9]{1,3};)*");
        private static final Pattern WEIGHT = Pattern.compile("p[0-9]{1,3},([0-9]{1,2})(?![0-9])");

        World now = new World();
        LinkedList<World> saved = new LinkedList<>();
        String text = "";

        private void save() {
            saved.addLast(now.twin());
            if (saved.size() > 4) {
                saved.removeFirst();
            }
        }

        private static void argument(boolean right) {
            if (!right) {
                throw new IllegalArgumentException();
            }
        }

        private static void state(boolean right) {
            if (!right) {
                throw new IllegalStateException();
            }
        }

        private static void index(int index, int size) {
            if (index < 0 || index >= size) {
                throw new IndexOutOfBoundsException();
            }
        }

        private Run existing(int run) {
            if (!now.runs.containsKey(run)) {
                throw new NoSuchElementException();
            }
            return now.runs.get(run);
        }

        private static boolean within(int value, int low, int high) {
            return low <= value && value <= high;
        }

        int begin(int room) {
            argument(within(room, 1, 12));
            save();
            int before = now.loaded.size();
            now = new World();
            now.room = room;
            return before;
        }

        int load(int key, int weight) {
            argument(within(key, 0, 999) && within(weight, 1, 50));
            state(now.loaded.size() < 120);
            save();
            return now.load(key, weight);
        }

        int loadDrawn(int seed, int parcels, int range) {
            argument(within(seed, 0, 999999) && within(parcels, 1, 60) && within(range, 1, 1000));
            save();
            long x = seed;
            int count = Math.min(parcels, 120 - now.loaded.size());
            for (int i = 0; i < count; i++) {
                x = (x * 1103515245 + 12345) % 2147483648L;
                now.load((int) (x / 65536 % range), (int) (x / 1024 % 50 + 1));
            }
            return count;
        }

        int empty() {
            save();
            return now.empty();
        }

        int merge(int first, int second) {
            existing(first);
            existing(second);
            argument(first != second);
            save();
            return now.merge(first, second);
        }

        int mergeLightest() {
            state(now.runs.size() >= 2);
            save();
            return now.mergeLightest();
        }

        int storm(int force) {
            argument(within(force, 1, 9));
            save();
            return now.storm(force);
        }

        int tighten(int run) {
            existing(run);
            save();
            Run tightened = now.runs.get(run);
            tightened.strength = Math.min(9, tightened.strength + 1);
            return tightened.strength;
        }

        int land(int run) {
            Run landed = existing(run);
            state(now.shore.isEmpty() || now.shore.last().compareTo(landed.row.first()) < 0);
            save();
            now.shore.addAll(now.runs.remove(run).row);
            now.open = now.open == run ? -1 : now.open;
            return now.shore.size();
        }

        int parcel(int number, int what) {
            index(number, now.loaded.size());
            argument(within(what, 0, 4));
            return facts(now.loaded.get(number))[what];
        }

        private int[] facts(Parcel parcel) {
            int home = -1;
            TreeSet<Parcel> row = now.shore.contains(parcel) ? now.shore : null;
            for (int run : now.runs.keySet()) {
                if (now.runs.get(run).row.contains(parcel)) {
                    home = run;
                    row = now.runs.get(run).row;
                }
            }
            int where = row == null ? 0 : home >= 0 ? 1 : 2;
            int place = row == null ? -1 : row.headSet(parcel).size();
            return new int[] {parcel.key, parcel.weight, where, home, place};
        }

        int run(int number, int what) {
            existing(number);
            argument(within(what, 0, 5));
            return facts(number)[what];
        }

        private int[] facts(int number) {
            Run run = now.runs.get(number);
            return new int[] {run.row.size(), run.weight(), run.strength, run.row.first().key,
                run.row.last().key, now.open == number ? 1 : 0};
        }

        int inRun(int number, int place) {
            Run run = existing(number);
            index(place, run.row.size());
            return new ArrayList<>(run.row).get(place).number;
        }

        int ashore(int place) {
            index(place, now.shore.size());
            return new ArrayList<>(now.shore).get(place).number;
        }

        int runAt(int index) {
            index(index, now.runs.size());
            return new ArrayList<>(now.runs.keySet()).get(index);
        }

        int value(int what) {
            argument(within(what, 0, 11));
            int inRuns = now.runs.values().stream().mapToInt(run -> run.row.size()).sum();
            return new int[] {now.room, now.boat.size(), now.loaded.size(), now.runs.size(), inRuns,
                now.shore.size(), now.costs, now.merges, now.storms, now.broken, now.open, now.floats}[what];
        }

        int nextThrown() {
            return now.boat.isEmpty() ? -1 : now.next().number;
        }

        int runsIfEmptied() {
            return now.twin().empty();
        }

        /** Pairs of weight and number; the lower number goes on, as it does in a merge. */
        int costByWeight() {
            PriorityQueue<int[]> queue = new PriorityQueue<>(
                    (a, b) -> a[0] != b[0] ? Integer.compare(a[0], b[0]) : Integer.compare(a[1], b[1]));
            for (int number : now.runs.keySet()) {
                queue.add(new int[] {now.runs.get(number).weight(), number});
            }
            int sum = 0;
            while (queue.size() > 1) {
                int[] first = queue.remove();
                int[] second = queue.remove();
                sum += first[0] + second[0];
                queue.add(new int[] {first[0] + second[0], Math.min(first[1], second[1])});
            }
            return sum;
        }

        int costByNumber() {
            World w = now.twin();
            while (w.runs.size() > 1) {
                w.merge(w.runs.firstKey(), w.runs.higherKey(w.runs.firstKey()));
            }
            return w.costs - now.costs;
        }

        int runsWith(int room) {
            argument(within(room, 1, 120));
            World w = new World();
            w.room = room;
            for (Parcel parcel : now.loaded) {
                w.load(parcel.key, parcel.weight);
            }
            return w.empty();
        }

        int leastRoom() {
            int room = 1;
            while (runsWith(room) > 1) {
                room++;
            }
            return room;
        }

        int inversions() {
            int pairs = 0;
            for (Parcel parcel : now.loaded) {
                for (Parcel other : now.loaded) {
                    pairs += parcel.number < other.number && parcel.key > other.key ? 1 : 0;
                }
            }
            return pairs;
        }

        int append(int value) {
            argument(within(value, 0, 127));
            state(text.length() < 100);
            text += (char) value;
            return text.length();
        }

        int clearText() {
            int length = text.length();
            text = "";
            return length;
        }

        /** The first byte behind which no right text can go on; a wrong weight is found right behind it. */
        private int syntaxError() {
            int good = 0;
            while (good < text.length() && canGoOn(text.substring(0, good + 1))) {
                good++;
            }
            Matcher weight = WEIGHT.matcher(text);
            while (weight.find() && weight.end() <= good) {
                if (!within(Integer.parseInt(weight.group(1)), 1, 50)) {
                    return weight.start(1);
                }
            }
            return good == text.length() && ORDERS.matcher(text).matches() ? -1 : good;
        }

        private static boolean canGoOn(String start) {
            Matcher matcher = ORDERS.matcher(start);
            return matcher.matches() || matcher.hitEnd();
        }

        int carryOut() {
            int error = syntaxError();
            if (error >= 0) {
                return -10 - error;
            }
            save();
            int done = 0;
            for (String order : text.isEmpty() ? new String[0] : text.split(";")) {
                if (!obeyed(order)) {
                    return done;
                }
                done++;
            }
            return done;
        }

        private boolean obeyed(String order) {
            String[] numbers = order.substring(1).split("[,+]");
            switch (order.charAt(0)) {
                case 'p':
                    if (now.loaded.size() == 120) {
                        return false;
                    }
                    now.load(Integer.parseInt(numbers[0]), Integer.parseInt(numbers[1]));
                    return true;
                case 'e':
                    now.empty();
                    return true;
                case 'l':
                    if (now.runs.size() < 2) {
                        return false;
                    }
                    now.mergeLightest();
                    return true;
                case 's':
                    now.storm(Integer.parseInt(numbers[0]));
                    return true;
                default:
                    int first = Integer.parseInt(numbers[0]);
                    int second = Integer.parseInt(numbers[1]);
                    if (first == second || !now.runs.containsKey(first) || !now.runs.containsKey(second)) {
                        return false;
                    }
                    now.merge(first, second);
                    return true;
            }
        }

        int undo() {
            state(!saved.isEmpty());
            now = saved.removeLast();
            return saved.size();
        }

        long digest() {
            List<Integer> values = new ArrayList<>();
            values.add(text.length());
            for (int what = 0; what < 12; what++) {
                values.add(value(what));
            }
            for (Parcel parcel : now.loaded) {
                for (int fact : facts(parcel)) {
                    values.add(fact);
                }
            }
            for (int number : now.runs.keySet()) {
                values.add(number);
                for (int fact : facts(number)) {
                    values.add(fact);
                }
            }
            values.add(nextThrown());
            values.add(costByWeight());
            values.add(saved.size());
            long h = 3691;
            for (int value : values) {
                h = 31 * h + value;
            }
            return h;
        }
    }
}
