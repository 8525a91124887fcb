/** Promises 24 to 26: the text and its orders. */
public final class TextTest {
    public static void main(String[] args) {
        append();
        appendRefused();
        clearText();
        emptyText();
        everyOrder();
        numbersWithZeros();
        stopsAtTheFirstOrderThatThrows();
        mergeOrdersThatThrow();
        savesOneState();
        syntaxErrors();
        syntaxErrorsInLoads();
        syntaxErrorsInStormsAndMerges();
        syntaxErrorChangesNothing();
        everyByte();
        longestTexts();
        Check.finish();
    }

    private static void append() {
        BoatRuns x = new BoatRuns();
        Check.same("24: the lowest byte", x.append(0), 1);
        Check.same("24: the highest byte", x.append(127), 2);
        Check.same("24: no state is saved", Check.thrown(x::undo), "IllegalStateException");
        x.load(1, 1);
        x.append('e');
        x.undo();
        Check.same("24: undo leaves the text", x.append('e'), 4);
    }

    private static void appendRefused() {
        BoatRuns x = new BoatRuns();
        Check.refused("24: -1", x, Check.ARGUMENT, () -> x.append(-1));
        Check.refused("24: 128", x, Check.ARGUMENT, () -> x.append(128));
        Check.refused("24: MAX", x, Check.ARGUMENT, () -> x.append(Integer.MAX_VALUE));
        for (int i = 1; i < 100; i++) {
            x.append(' ');
        }
        Check.same("24: 100 bytes", x.append(' '), 100);
        Check.refused("24: one more", x, Check.STATE, () -> x.append(' '));
        Check.refused("24: the first exception", x, Check.ARGUMENT, () -> x.append(128));
        Check.same("25: 100 bytes", x.clearText(), 100);
        Check.same("24: room again", x.append(' '), 1);
    }

    private static void clearText() {
        BoatRuns x = new BoatRuns();
        Check.same("25: no text", x.clearText(), 0);
        Check.write(x, "e;l");
        x.load(1, 1);
        Check.same("25: three bytes", x.clearText(), 3);
        Check.same("25: no text again", x.clearText(), 0);
        Check.same("25: the orders are gone", x.carryOut(), 0);
        Check.same("25: no state is saved", x.undo(), 1);
        Check.same("25: only those of the others", x.undo(), 0);
    }

    private static void emptyText() {
        BoatRuns x = new BoatRuns();
        Check.same("26: no orders", x.carryOut(), 0);
        Check.same("26: one saved state", x.undo(), 0);
    }

    private static void everyOrder() {
        BoatRuns x = new BoatRuns();
        Check.same("26: load", Check.carryOut(x, "p30,5;p10,50;"), 2);
        Check.same("26: parcels", Check.parcel(x, 0) + "/" + Check.parcel(x, 1), "30 5 0 -1 -1/10 50 0 -1 -1");
        Check.same("26: empty", Check.carryOut(x, "e;"), 1);
        Check.same("26: row 0", Check.row(x, 0), "1 0");
        Check.same("26: storm", Check.carryOut(x, "s9;"), 1);
        Check.same("26: values", Check.values(x), "4 0 2 2 2 0 0 0 1 1 -1 2");
        Check.same("26: merge lightest", Check.carryOut(x, "l;"), 1);
        Check.same("26: values then", Check.values(x), "4 0 2 1 2 0 55 1 1 1 -1 2");
        Check.same("26: storm and merge", Check.carryOut(x, "s5;m2+0;"), 2);
        Check.same("26: values at last", Check.values(x), "4 0 2 1 2 0 110 2 2 2 -1 3");
        Check.same("26: the text stays", x.clearText(), 8);
        Check.same("26: strength 3 before", x.run(0, 2), 3);
        Check.same("26: weak storms", Check.carryOut(x, "s3;s2;s1;"), 3);
        Check.same("26: none broke", x.value(9), 2);
        x.undo();
        Check.same("26: one that is stronger", Check.carryOut(x, "s4;"), 1);
        Check.same("26: one broke", x.value(9), 3);
        Check.same("26: a load and a storm", Check.carryOut(x, "p1,1;s1;"), 2);
        Check.same("26: one parcel more", x.value(2), 3);
        Check.same("26: loads throw overboard", Check.carryOut(x, "p5,1;p6,2;p7,3;p8,4;p9,5;p0,6;"), 6);
        Check.same("26: the open run", x.value(10), 4);
        Check.same("26: its row", Check.row(x, 4), "2 3 4");
    }

    private static void numbersWithZeros() {
        BoatRuns x = new BoatRuns();
        Check.same("26: zeros in front", Check.carryOut(x, "p007,01;p000,50;p999,09;e;p5,5;e;m001+00;"), 7);
        Check.same("26: parcels", Check.parcel(x, 0) + "/" + Check.parcel(x, 1) + "/" + Check.parcel(x, 2),
                "7 1 1 0 2/0 50 1 0 0/999 9 1 0 3");
    }

    private static void stopsAtTheFirstOrderThatThrows() {
        BoatRuns x = new BoatRuns();
        Check.same("26: too few runs", Check.carryOut(x, "p1,1;e;l;p2,2;"), 2);
        Check.same("26: the rest is left", x.value(2), 1);
        x.begin(12);
        x.loadDrawn(1, 60, 1000);
        x.loadDrawn(2, 58, 1000);
        Check.same("26: too many parcels", Check.carryOut(x, "p1,1;p2,1;p3,1;e;"), 2);
        Check.same("26: the boat isn't emptied", x.value(1), 12);
        Check.same("26: 120 parcels", x.value(2), 120);
        Check.same("26: carried out again", x.carryOut(), 0);
    }

    private static void mergeOrdersThatThrow() {
        BoatRuns x = new BoatRuns();
        Check.carryOut(x, "p1,1;e;p2,2;e;");
        Check.same("26: no second run", Check.carryOut(x, "m0+2;e;"), 0);
        Check.same("26: no first run", Check.carryOut(x, "m999+0;e;"), 0);
        Check.same("26: the same", Check.carryOut(x, "e;m1+1;e;"), 1);
        Check.same("26: the one of before", Check.carryOut(x, "m0+1;m0+1;"), 1);
        Check.same("26: one merge", x.value(7), 1);
    }

    private static void savesOneState() {
        BoatRuns x = new BoatRuns();
        Check.carryOut(x, "p1,1;p2,2;p3,3;e;s9;");
        Check.same("26: one saved state", x.undo(), 0);
        Check.same("26: all orders are undone", Check.values(x), "4 0 0 0 0 0 0 0 0 0 -1 0");
        Check.same("26: carried out again", x.carryOut(), 5);
        Check.carryOut(x, "m7+8;");
        Check.same("26: also if none is carried out", x.undo(), 1);
    }

    private static void error(String text, int position) {
        BoatRuns x = new BoatRuns();
        x.load(5, 5);
        Check.write(x, text);
        String before = Check.picture(x);
        Check.same("26: \"" + text + "\"", x.carryOut(), -10 - position);
        Check.same("26: \"" + text + "\", the state then", Check.picture(x), before);
    }

    private static void syntaxErrors() {
        error("x", 0);
        error(";", 0);
        error(" e;", 0);
        error("e", 1);
        error("ee", 1);
        error("e ;", 1);
        error("e;;", 2);
        error("l", 1);
        error("l1;", 1);
        error("e;l;x", 4);
        error("e;l;s", 5);
        error("P1,1;", 0);
        error("E;", 0);
        error("e;\u0000", 2);
        error("e;\u007f", 2);
    }

    private static void syntaxErrorsInLoads() {
        error("p", 1);
        error("p,", 1);
        error("p-1,1;", 1);
        error("p1", 2);
        error("p123", 4);
        error("p1234,1;", 4);
        error("p0001,1;", 4);
        error("p1;", 2);
        error("p1+1;", 2);
        error("p1,", 3);
        error("p1,;", 3);
        error("p1,1", 4);
        error("p1,1,", 4);
        error("p1,12", 5);
        error("p1,123;", 5);
        error("p1,001;", 5);
        error("p1,990", 5);
        error("p1,0;", 3);
        error("p1,00;", 3);
        error("p1,0x", 3);
        error("p1,0", 3);
        error("p1,51;", 3);
        error("p1,51", 3);
        error("p1,99p", 3);
        error("p12,50", 6);
        error("p1,5;p22,77;x", 9);
        error("p1,5;p22,77", 9);
    }

    private static void syntaxErrorsInStormsAndMerges() {
        error("s", 1);
        error("s;", 1);
        error("s0;", 1);
        error("s0", 1);
        error("s00", 1);
        error("sx", 1);
        error("s1", 2);
        error("s10;", 2);
        error("s9x", 2);
        error("m", 1);
        error("m+", 1);
        error("m1", 2);
        error("m1,2;", 2);
        error("m1234+1;", 4);
        error("m1+", 3);
        error("m1+;", 3);
        error("m1+2", 4);
        error("m1+2+", 4);
        error("m999+999", 8);
        error("m999+9999", 8);
        error("m000+0000;", 8);
        error("m1+2;m", 6);
    }

    private static void syntaxErrorChangesNothing() {
        BoatRuns x = new BoatRuns();
        Check.same("26: an error behind good orders", Check.carryOut(x, "p1,1;e;x"), -17);
        Check.same("26: no state is saved", Check.thrown(x::undo), "IllegalStateException");
        Check.same("26: no parcel", x.value(2), 0);
        Check.same("26: the text stays", x.clearText(), 8);
        Check.same("26: good orders then", Check.carryOut(x, "p1,1;e;"), 2);
    }

    private static void everyByte() {
        for (int value = 0; value < 128; value++) {
            BoatRuns x = new BoatRuns();
            x.append(value);
            boolean canStart = "pelsm".indexOf(value) >= 0;
            Check.same("26: byte " + value, x.carryOut(), canStart ? -11 : -10);
            x.clearText();
            x.append('s');
            x.append(value);
            boolean isForce = value >= '1' && value <= '9';
            Check.same("26: s and byte " + value, x.carryOut(), isForce ? -12 : -11);
        }
    }

    private static void longestTexts() {
        BoatRuns x = new BoatRuns();
        Check.same("26: 50 orders", Check.carryOut(x, "e;".repeat(50)), 50);
        Check.same("26: 100 bytes that end too early", Check.carryOut(x, "e;".repeat(48) + "p1,1"), -110);
        Check.same("26: an error at the last byte", Check.carryOut(x, "e;".repeat(49) + "l,"), -109);
        Check.same("26: out of range at the end", Check.carryOut(x, "e;".repeat(48) + "p1,0"), -109);
        BoatRuns stormy = new BoatRuns();
        stormy.begin(12);
        stormy.loadDrawn(1, 60, 1000);
        stormy.empty();
        Check.same("26: 33 storms", Check.carryOut(stormy, "s9;".repeat(33)), 33);
        Check.same("26: 60 runs", stormy.value(3), 60);
        Check.same("26: 50 merges", Check.carryOut(stormy, "l;".repeat(50)), 50);
        Check.same("26: 10 runs are left", stormy.value(3), 10);
        Check.same("26: up to the last one", stormy.carryOut(), 9);
    }
}
