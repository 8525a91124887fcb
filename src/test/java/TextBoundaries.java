import java.util.function.Supplier;

/** Boundaries of the terms on the text, and of promises 24 to 26. */
final class TextBoundaries {
    private static final String DIGITS = "0123456789";

    /** What can stand behind the start of a text. */
    private static final String[][] STARTS = {
        {"", "pelsm"},
        {"e", ";"},
        {"e;", "pelsm"},
        {"l", ";"},
        {"l;", "pelsm"},
        {"s", "123456789"},
        {"s1", ";"},
        {"s9", ";"},
        {"s5;", "pelsm"},
        {"p", DIGITS},
        {"p0", DIGITS + ","},
        {"p9", DIGITS + ","},
        {"p00", DIGITS + ","},
        {"p99", DIGITS + ","},
        {"p000", ","},
        {"p999", ","},
        {"p999,", DIGITS},
        {"p999,1", DIGITS + ";"},
        {"p999,4", DIGITS + ";"},
        {"p999,01", ";"},
        {"p999,50", ";"},
        {"p999,50;", "pelsm"},
        {"m", DIGITS},
        {"m0", DIGITS + "+"},
        {"m99", DIGITS + "+"},
        {"m000", "+"},
        {"m999", "+"},
        {"m999+", DIGITS},
        {"m999+0", DIGITS + ";"},
        {"m999+99", DIGITS + ";"},
        {"m999+000", ";"},
        {"m999+999", ";"},
        {"m999+999;", "pelsm"},
    };

    private TextBoundaries() {
    }

    static void check() {
        mostBytes();
        whatCanStand();
        digitsOfKeys();
        digitsOfWeights();
        forces();
        digitsOfRuns();
        everyOrderNeedsASemicolon();
        noSpaces();
        noOrders();
        zerosInFront();
        errorPositions();
        endsTooEarly();
        weightsOutOfRange();
        whateverFollowsAWeight();
        appended();
        appendedBytes();
        lengthAppended();
        appendRefused();
        emptied();
        lengthBefore();
        upToTheFirstThatThrows();
        theTextStays();
        undoable();
        answers();
        nothingChanges();
    }

    private static BoatRuns with(String text) {
        BoatRuns x = new BoatRuns();
        Check.write(x, text);
        return x;
    }

    private static void same(String text, int due) {
        Check.same("\"" + text + "\"", with(text).carryOut(), due);
    }

    /** The text has its syntax error at this position. */
    private static void error(String text, int position) {
        same(text, -10 - position);
    }

    // ---- the terms

    private static void mostBytes() {
        Doc.about("Terms, Text", "The text has at most 100 bytes.");
        BoatRuns x = new BoatRuns();
        for (int length = 1; length <= 100; length++) {
            Check.same("a byte", x.append(length % 2 == 1 ? 'e' : ';'), length);
        }
        Check.refused("byte 101", x, Check.STATE, () -> x.append('e'));
        Check.same("all 100 are read", x.carryOut(), 50);
        Check.same("the length", x.clearText(), 100);
        Check.same("the first one again", x.append('e'), 1);
        Supplier<BoatRuns> full = () -> with("e;".repeat(50));
        for (int value : new int[] {0, ';', 'e', 127}) {
            Check.refusedOn("byte 101, " + value, full, Check.STATE, y -> y.append(value));
        }
        Check.same("99 bytes", with("e;".repeat(49) + "e").append(';'), 100);
        error("e;".repeat(49) + "ee", 99);
        error("e;".repeat(49) + "e", 99);
    }

    private static void whatCanStand() {
        Doc.about("Terms, Text", "It is a sequence of orders, each terminated by a semicolon: \"p\", a key of one to three "
                + "digits, 0 to 999, a comma, and a weight of one or two digits, 1 to 50, to load a parcel; \"e\", to "
                + "empty the boat; \"l\", to merge the two lightest runs; \"s\" and a digit 1 to 9, a storm; \"m\", a "
                + "number of a run of one to three digits, \"+\", and another such number, to merge two runs (any such "
                + "numbers can stand there).");
        for (String[] start : STARTS) {
            BoatRuns x = new BoatRuns();
            for (int value = 0; value < 128; value++) {
                if (value % 16 == 0) {
                    x = new BoatRuns();
                }
                Check.write(x, start[0] + (char) value);
                boolean canStand = start[1].indexOf(value) >= 0;
                int answer = x.carryOut();
                String what = "\"" + start[0] + "\" and byte " + value;
                if (!canStand) {
                    Check.same(what, answer, -10 - start[0].length());
                } else if (value == ';') {
                    Check.isTrue(what + " answered " + answer, answer >= 0);
                } else if (!start[0].equals("p999,") || value != '0') {
                    Check.same(what, answer, -10 - start[0].length() - 1);
                }
            }
        }
    }

    private static void digitsOfKeys() {
        error("p,1;", 1);
        error("p0000,1;", 4);
        error("p0999,1;", 4);
        error("p1000,1;", 4);
        String[] keys = {"0", "1", "9", "00", "10", "99", "000", "009", "099", "100", "998", "999"};
        for (String key : keys) {
            BoatRuns x = with("p" + key + ",1;");
            Check.same("key " + key, x.carryOut(), 1);
            Check.same("the key of " + key, x.parcel(0, 0), Integer.parseInt(key));
        }
    }

    private static void digitsOfWeights() {
        error("p1,;", 3);
        error("p1,001;", 5);
        error("p1,050;", 5);
        error("p1,100;", 5);
        for (int weight = 0; weight <= 99; weight++) {
            BoatRuns x = with("p1," + weight + ";");
            if (weight >= 1 && weight <= 50) {
                Check.same("weight " + weight, x.carryOut(), 1);
                Check.same("the weight of " + weight, x.parcel(0, 1), weight);
            } else {
                Check.same("weight " + weight, x.carryOut(), -13);
                Check.same("no parcel of " + weight, x.value(2), 0);
            }
        }
    }

    private static void forces() {
        error("s;", 1);
        error("s0;", 1);
        error("s00;", 1);
        error("s01;", 1);
        error("s10;", 2);
        error("s99;", 2);
        for (int force = 1; force <= 9; force++) {
            BoatRuns x = with("p1,1;p2,1;e;s" + force + ";");
            Check.same("force " + force, x.carryOut(), 4);
            Check.same("force " + force + " at strength 5", x.value(9), force > 5 ? 1 : 0);
        }
        BoatRuns weak = with("p1,1;p2,1;e;s1;s1;s1;s1;s1;s1;");
        Check.same("six storms of force 1", weak.carryOut(), 9);
        Check.same("the last one breaks at strength 0", weak.value(9), 1);
        BoatRuns strong = new BoatRuns();
        Check.makeRun(strong, 1, 1, 2);
        for (int i = 0; i < 4; i++) {
            strong.tighten(0);
        }
        Check.same("two storms of force 9", Check.carryOut(strong, "s9;s9;"), 2);
        Check.same("the last one breaks at strength 8", strong.value(9), 1);
    }

    private static void digitsOfRuns() {
        error("m+1;", 1);
        error("m1+;", 3);
        error("m0000+1;", 4);
        error("m1000+1;", 4);
        error("m1+0000;", 6);
        error("m1+1000;", 6);
        for (String numbers : new String[] {"0+0", "0+999", "999+0", "999+999", "000+001", "10+10", "99+100"}) {
            same("m" + numbers + ";", 0);
        }
        for (String numbers : new String[] {"0+1", "1+0", "00+01", "001+000", "0+001"}) {
            same("p1,1;e;p2,2;e;m" + numbers + ";", 5);
        }
        BoatRuns many = new BoatRuns();
        Check.makeRun(many, 1, 1, 2);
        Check.write(many, "s9;l;".repeat(20));
        while (many.value(11) + 20 < 999) {
            many.carryOut();
        }
        while (many.value(11) < 999) {
            Check.carryOut(many, "s9;l;");
        }
        Check.carryOut(many, "s9;");
        Check.same("the number of the second run", many.runAt(1), 999);
        Check.same("the highest number that can be told", Check.carryOut(many, "m999+0;"), 1);
        Check.carryOut(many, "s9;");
        Check.same("the number of the second run then", many.runAt(1), 1000);
        Check.same("one that cannot be told", Check.carryOut(many, "m1000+0;"), -14);
        Check.same("but merged", many.merge(1000, 0), 2);
    }

    private static void everyOrderNeedsASemicolon() {
        String[] orders = {"p1,1", "e", "l", "s1", "m0+1"};
        for (String order : orders) {
            error(order, order.length());
            error(order + "e;", order.length());
            error(order + ";;", order.length() + 1);
            error("e;" + order, 2 + order.length());
            Check.isTrue(order + ";", with(order + ";").carryOut() >= 0);
        }
        error(";", 0);
    }

    private static void noSpaces() {
        Doc.about("Terms, Text", "There are no spaces; there may be no orders.");
        String order = "p12,34;";
        for (int at = 0; at <= order.length(); at++) {
            error(order.substring(0, at) + " " + order.substring(at), at);
        }
        order = "m0+12;";
        for (int at = 0; at <= order.length(); at++) {
            error(order.substring(0, at) + " " + order.substring(at), at);
        }
        error(" ", 0);
        error("s 1;", 1);
        error("s1 ;", 2);
        error("e;\n", 2);
        error("e;\te;", 2);
    }

    private static void noOrders() {
        BoatRuns x = new BoatRuns();
        Check.same("no orders", x.carryOut(), 0);
        Check.same("a saved state", x.undo(), 0);
        same("e;", 1);
    }

    private static void zerosInFront() {
        Doc.about("Terms, Text", "Numbers can have zeros in front.");
        BoatRuns x = with("p007,01;p07,09;p7,1;p000,50;p00,10;p0,5;");
        Check.same("six loads", x.carryOut(), 6);
        String all = "";
        for (int p = 0; p < 6; p++) {
            all += x.parcel(p, 0) + " " + x.parcel(p, 1) + "/";
        }
        Check.same("keys and weights", all, "7 1/7 9/7 1/0 50/0 10/0 5/");
        error("p0007,1;", 4);
        error("p7,001;", 5);
        error("m0001+0;", 4);
        error("m0+0001;", 6);
        error("s01;", 1);
        error("p7,00;", 3);
        BoatRuns runs = with("p1,1;e;p2,2;e;m001+00;");
        Check.same("a merge", runs.carryOut(), 5);
        Check.same("of runs 1 and 0", runs.value(6), 3);
    }

    private static void errorPositions() {
        Doc.about("Terms, Text", "The syntax error position is the index of the first byte that cannot stand where it "
                + "stands (a digit too many, too), or the length of the text if the text ends too early.");
        error("x", 0);
        error("\u0000", 0);
        error("\u007f", 0);
        error("P1,1;", 0);
        error("+", 0);
        error("e;x;x;", 2);
        error("xe;", 0);
        error("p1234", 4);
        error("p1,123", 5);
        error("m1234", 4);
        error("m1+1234", 6);
        error("s12", 2);
        error("s0", 1);
        error("s00", 1);
        error("p1+1;", 2);
        error("m1,1;", 2);
        error("p1,1,", 4);
        error("m1+1+", 4);
        error("p1;", 2);
        error("m1;", 2);
        error("p/", 1);
        error("p:", 1);
        error("s/", 1);
        error("s:", 1);
        error("m/", 1);
        error("m:", 1);
        error("e;".repeat(49) + ";", 98);
        error("e;".repeat(49) + "e,", 99);
    }

    private static void endsTooEarly() {
        String whole = "p123,45;m678+901;s7;l;e;";
        for (int length = 0; length <= whole.length(); length++) {
            String text = whole.substring(0, length);
            int answer = with(text).carryOut();
            if (length == 0 || text.endsWith(";")) {
                Check.isTrue("\"" + text + "\" answered " + answer, answer >= 0);
            } else {
                Check.same("\"" + text + "\"", answer, -10 - length);
            }
        }
        error("e;".repeat(49) + "s9", 100);
        error("e;".repeat(48) + "e;e", 99);
        error("e;".repeat(48) + "p1,5", 100);
    }

    private static void weightsOutOfRange() {
        Doc.about("Terms, Text", "For a number that is out of its range it is the index of its first digit, found when a "
                + "byte that is no digit, whichever it is, or the end of the text, follows it.");
        for (String weight : new String[] {"0", "00", "51", "52", "60", "99"}) {
            error("p1," + weight, 3);
            error("p1," + weight + ";", 3);
            error("p123," + weight + ";", 5);
            error("e;p12," + weight, 6);
            error("p1," + weight + ";x", 3);
            error("p1," + weight + ";p1,0;", 3);
        }
        error("p1,99", 3);
        error("p1,990", 5);
        error("p1,990;", 5);
        error("x;p1,0;", 0);
        error("p1,1;p1,51;p1,0;", 8);
        for (String weight : new String[] {"1", "01", "9", "09", "10", "49", "50"}) {
            error("p1," + weight, 3 + weight.length());
            same("p1," + weight + ";", 1);
        }
        error("e;".repeat(48) + "p1,0", 99);
        error("e;".repeat(47) + "p12,51", 98);
    }

    private static void whateverFollowsAWeight() {
        for (String weight : new String[] {"0", "00", "5", "50", "51", "99"}) {
            BoatRuns x = new BoatRuns();
            for (int value = 0; value < 128; value++) {
                if (value % 16 == 0) {
                    x = new BoatRuns();
                }
                Check.write(x, "p1," + weight + (char) value);
                int due = afterWeight(weight, (char) value);
                Check.same("\"p1," + weight + "\" and byte " + value, x.carryOut(), due);
            }
        }
    }

    private static int afterWeight(String weight, char follows) {
        if (DIGITS.indexOf(follows) >= 0) {
            return weight.length() == 2 || isWeight(weight + follows) ? -15 : -13;
        }
        if (!isWeight(weight)) {
            return -13;
        }
        return follows == ';' ? 1 : -13 - weight.length();
    }

    private static boolean isWeight(String digits) {
        int weight = Integer.parseInt(digits);
        return weight >= 1 && weight <= 50;
    }

    // ---- promise 24

    private static void appended() {
        Doc.promise(24, "Appends a byte to the text.");
        BoatRuns x = new BoatRuns();
        for (char sign : "p12,34;".toCharArray()) {
            x.append(sign);
        }
        Check.same("in their order", x.carryOut(), 1);
        Check.same("the parcel", Check.parcel(x, 0), "12 34 0 -1 -1");
        x.append('e');
        x.append(';');
        Check.same("at the end", x.carryOut(), 2);
        BoatRuns unsaved = new BoatRuns();
        unsaved.append('e');
        Check.same("no state is saved", Check.thrown(unsaved::undo), "IllegalStateException");
    }

    private static void appendedBytes() {
        Doc.promise(24, "`value`: the byte, 0 to 127");
        for (int value = 0; value <= 127; value++) {
            BoatRuns x = new BoatRuns();
            Check.same("byte " + value, x.append(value), 1);
            Check.same("byte " + value + ", read", x.carryOut(), "pelsm".indexOf(value) >= 0 ? -11 : -10);
        }
    }

    private static void lengthAppended() {
        Doc.promise(24, "Returns the new length of the text.");
        BoatRuns x = new BoatRuns();
        Check.same("the first byte", x.append(0), 1);
        Check.same("the second byte", x.append(0), 2);
        x.carryOut();
        Check.same("the third one, after an error", x.append(0), 3);
        x.clearText();
        Check.same("the first one again", x.append(0), 1);
        BoatRuns long99 = with("e".repeat(99));
        Check.same("the last one", long99.append('e'), 100);
    }

    private static void appendRefused() {
        Doc.promise(24, "Throws `IllegalArgumentException` if value is out of range");
        Check.range(Check::busy, 0, 127, Check.ARGUMENT, BoatRuns::append);
        Supplier<BoatRuns> full = () -> with("e;".repeat(50));
        for (int value : new int[] {-1, 128, 255, Integer.MIN_VALUE, Integer.MAX_VALUE}) {
            Check.refusedOn("with 100 bytes, " + value, full, Check.ARGUMENT, x -> x.append(value));
        }
        Doc.promise(24, "Throws `IllegalStateException` if the text has 100 bytes");
        for (int value : new int[] {0, 'e', 127}) {
            Check.refusedOn("" + value, full, Check.STATE, x -> x.append(value));
        }
        Check.same("with 99 bytes", with("e;".repeat(49) + "e").append(';'), 100);
        BoatRuns x = full.get();
        x.clearText();
        Check.same("with none again", x.append('e'), 1);
    }

    // ---- promise 25

    private static void emptied() {
        Doc.promise(25, "Empties the text.");
        BoatRuns x = with("x");
        Check.same("an error before", x.carryOut(), -10);
        x.clearText();
        Check.same("no orders then", x.carryOut(), 0);
        BoatRuns busy = Check.busy();
        busy.clearText();
        Check.same("no orders of many", busy.carryOut(), 0);
        BoatRuns unsaved = with("e;");
        unsaved.clearText();
        Check.same("no state is saved", Check.thrown(unsaved::undo), "IllegalStateException");
    }

    private static void lengthBefore() {
        Doc.promise(25, "Returns the length that it had.");
        for (int length : new int[] {0, 1, 2, 99, 100}) {
            BoatRuns x = with(" ".repeat(length));
            Check.same("length " + length, x.clearText(), length);
            Check.same("then", x.clearText(), 0);
        }
    }

    // ---- promise 26

    private static void upToTheFirstThatThrows() {
        Doc.promise(26, "Carries out the orders of the text, up to the first one that would throw an exception "
                + "(that one is not carried out).");
        stops("l;", 0, "4 0 0 0 0 0 0 0 0 0 -1 0");
        stops("p1,1;e;l;p2,2;", 2, "4 0 1 1 1 0 0 0 0 0 -1 1");
        stops("p1,1;e;p2,2;e;l;l;e;", 5, "4 0 2 1 2 0 3 1 0 0 -1 2");
        stops("m0+0;e;", 0, "4 0 0 0 0 0 0 0 0 0 -1 0");
        stops("p1,1;e;m0+0;p2,2;", 2, "4 0 1 1 1 0 0 0 0 0 -1 1");
        stops("p1,1;e;m0+1;p2,2;", 2, "4 0 1 1 1 0 0 0 0 0 -1 1");
        stops("p1,1;e;m1+0;p2,2;", 2, "4 0 1 1 1 0 0 0 0 0 -1 1");
        stops("p1,1;e;p2,2;e;m1+0;m1+0;s1;", 5, "4 0 2 1 2 0 3 1 0 0 -1 2");
        stops("s1;s9;e;l;s1;", 3, "4 0 0 0 0 0 0 0 2 0 -1 0");
        BoatRuns x = Check.loaded(119);
        Check.same("one of two loads", Check.carryOut(x, "s1;p1,1;p2,2;s1;"), 2);
        Check.same("120 parcels, one storm", x.value(2) + " " + x.value(8), "120 1");
        Check.same("no load", Check.carryOut(x, "p3,3;s1;"), 0);
        Check.same("still one storm", x.value(2) + " " + x.value(8), "120 1");
        Check.same("all of it", Check.carryOut(x, "s1;"), 1);
    }

    private static void stops(String text, int due, String values) {
        BoatRuns x = with(text);
        Check.same("\"" + text + "\"", x.carryOut(), due);
        Check.same("\"" + text + "\", the values", Check.values(x), values);
    }

    private static void theTextStays() {
        Doc.promise(26, "The text stays as it is.");
        for (String text : new String[] {"", "e;", "s1;s2;", "l;", "x", "p1,1;p", "p1,0;"}) {
            BoatRuns x = with(text);
            int answer = x.carryOut();
            Check.same("\"" + text + "\" again", x.carryOut(), answer);
            Check.same("\"" + text + "\", its length", x.clearText(), text.length());
        }
    }

    private static void undoable() {
        Doc.promise(26,
                "Undoable (one saved state, also if no order is carried out), if there is no syntax error.");
        for (String text : new String[] {"", "l;", "m0+1;", "e;", "e;e;e;e;e;", "e;".repeat(50)}) {
            BoatRuns x = with(text);
            x.carryOut();
            Check.same("\"" + text + "\", one saved state", x.undo(), 0);
        }
        for (String text : new String[] {"x", "e", "e;x", "p1,1;e;p1,0;"}) {
            BoatRuns x = with(text);
            x.carryOut();
            Check.same("\"" + text + "\", none", Check.thrown(x::undo), "IllegalStateException");
        }
        BoatRuns x = with("p1,1;p2,2;p3,3;p4,4;p5,5;p6,6;e;s9;l;");
        x.load(7, 7);
        String before = Check.picture(x);
        Check.same("nine orders", x.carryOut(), 9);
        Check.same("all undone at once", x.undo(), 1);
        Check.same("the state then", Check.picture(x), before);
        BoatRuns full = Check.busy();
        full.carryOut();
        for (int left = 3; left >= 0; left--) {
            Check.same("the fifth state drops the oldest", full.undo(), left);
        }
        Check.same("the oldest that is left", full.value(2), 5);
    }

    private static void answers() {
        Doc.promise(26, "Returns the number of orders that are carried out; -10 minus the syntax error position if there "
                + "is a syntax error (then nothing changes).");
        same("", 0);
        same("l;", 0);
        same("e;", 1);
        same("e;".repeat(49), 49);
        same("e;".repeat(50), 50);
        same("x", -10);
        same("e", -11);
        same("e;".repeat(49) + "xe", -108);
        same("e;".repeat(49) + "ex", -109);
        same("e;".repeat(49) + "s1", -110);
    }

    private static void nothingChanges() {
        for (String text : new String[] {"x", "e;x", "e;l;p1,0;", "p1,1;p2,2;p3,3", "s9;s9;s0;", "e;".repeat(49) + "s1"}) {
            BoatRuns x = Check.busy();
            Check.write(x, text);
            Check.isTrue("an error in \"" + text + "\"", x.carryOut() <= -10);
            BoatRuns twin = Check.busy();
            Check.write(twin, text);
            Check.same("\"" + text + "\", all of it then", Check.story(x), Check.story(twin));
        }
    }
}
