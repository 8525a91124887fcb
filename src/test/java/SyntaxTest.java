/** Promise 26: every short text, also behind some starts, compared with the model that reads it in another way. */
public final class SyntaxTest {
    private static final String SIGNS = "pelsm0159;,+ ";
    private static final String[] STARTS = {"p1", "p99,", "p000,0", "p7,5", "m1", "m10+", "m00+00", "s", "e;l;"};

    private static BoatRuns x = new BoatRuns();
    private static int calls;

    public static void main(String[] args) {
        everyTextBehind("", 4);
        for (String start : STARTS) {
            everyTextBehind(start, 3);
        }
        Check.finish();
    }

    private static void everyTextBehind(String start, int more) {
        read(start);
        for (int i = 0; more > 0 && i < SIGNS.length(); i++) {
            everyTextBehind(start + SIGNS.charAt(i), more - 1);
        }
    }

    private static void read(String text) {
        ModelTest.Model model = new ModelTest.Model();
        model.text = text;
        // Behind another boat each text finds the same state, and an object takes no more than 512 calls.
        calls += text.length() + 3;
        if (calls > 512) {
            x = new BoatRuns();
            calls = text.length() + 3;
        }
        x.begin(4);
        Check.same("\"" + text + "\"", Check.carryOut(x, text), model.carryOut());
    }
}
