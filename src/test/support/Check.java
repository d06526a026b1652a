/** What the tests share: a test extends it, says which promise it looks at, and compares answers with those due. */
abstract class Check {
    static final int BAD = -1, STATE = -2, FULL = -3, NONE = -9, NO = -1000000;
    static final int[] OUTSIDE = {-1, Integer.MIN_VALUE, Integer.MAX_VALUE};

    /** Four drives of stations 5, 6, 6, 9; lengths 2, 3, 1, 4, 5. */
    static final String CLOSED = "d2 5;d3 6;d1 6;d4 9;z5;";
    static final String OPEN = "d2 5;d3 6;d1 6;d4 9;";

    /** All that a wire may have at most. */
    static final String GREATEST = "d9 15;d9 15;d9 15;d9 15;d9 15;d9 15;z9;m9;";

    static String promise = "";
    private static int wrong = 0;

    static void due(String call, int got, int want) {
        if (got != want) {
            fault(call + " answered " + got + ", due is " + want);
        }
    }

    static void fault(String what) {
        wrong++;
        System.out.println(promise + ": " + what);
    }

    static void exitIfWrong() {
        if (wrong != 0) {
            System.out.println(wrong + " answers are not as due");
            System.exit(1);
        }
    }

    static void typeAll(RingFrames x, String text) {
        for (int i = 0; i < text.length(); i++) {
            x.type(text.charAt(i));
        }
    }

    static int wire(RingFrames x, String text) {
        x.clear();
        typeAll(x, text);
        return x.wires();
    }

    static int frame(RingFrames x, String text) {
        x.clear();
        typeAll(x, text);
        return x.frames();
    }

    static RingFrames ring(String wire, String frame) {
        RingFrames x = new RingFrames();
        wire(x, wire);
        if (!frame.isEmpty()) {
            frame(x, frame);
        }
        return x;
    }

    static void changesNothing(String name, View.Maker made, View.Call call) {
        alike(name, made, () -> {
            RingFrames x = made.make();
            call.on(x);
            return x;
        });
    }

    static void alike(String name, View.Maker one, View.Maker other) {
        String difference = View.difference(one, other);
        if (!difference.isEmpty()) {
            fault(name + " is not as without it: " + difference);
        }
    }
}
