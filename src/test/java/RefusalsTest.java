/**
 * "Refused, and nothing changes, the first of these that is so: BAD, STATE, FULL": what each refused call answers,
 * which refusal comes first where two are due, and that nothing that calls can show has changed behind it. And that
 * the calls that only tell something change nothing either.
 */
public final class RefusalsTest extends Check {
    private static View.Maker scene;

    public static void main(String[] args) {
        ofANewObject();
        ofARingInUse();
        ofAFullObject();
        ofARingWithAllLinksCut();
        ofAWholeRing();
        ofAFrameWithoutACycle();
        badIsAheadOfState();
        badIsAheadOfFull();
        badIsAheadOfNone();
        whatOnlyTells();
        exitIfWrong();
    }

    // ---- the scenes

    /** Drives 0 and 3 are safe, link 1 is cut, both images are kept, a whole wire is in THE TEXT. */
    private static RingFrames inUse() {
        RingFrames x = ring("d2 5;d3 6;d1 6;d4 9;z5;m2;", "rs6 0 3;xs6 1 9;");
        x.keep(1);
        x.sets(1, 0, 11);
        x.sets(2, 3, 12);
        x.cycles(2);
        x.keep(0);
        x.drifts(1, 7);
        x.cuts(1);
        x.measures();
        x.drifts(0, -4);
        x.cycles(1);
        x.sees(4, 5);
        x.sees(0, 2);
        typeAll(x, "d3 4;m5;d2 1;z8;");
        return x;
    }

    /** All that there may be of drives, links, orders, letters, what is seen and what can be undone. */
    private static RingFrames full() {
        RingFrames x = ring(GREATEST, "rb0 1;wp5 3 255;xs15 1 9;rs15 2 0;");
        for (int d = 0; d < 6; d++) {
            x.drifts(d, 50 - d);
            x.sets(d, 0, 250 + d);
        }
        x.cycles(3);
        x.keep(0);
        x.keep(1);
        for (int what = 0; what <= 5; what++) {
            x.sees(what, x.would(what));
        }
        typeAll(x, " ".repeat(115) + "d1 1;");
        return x;
    }

    private static RingFrames allCut() {
        RingFrames x = ring(CLOSED, "rb0 1;xp1 1 9;");
        for (int k = 0; k <= 4; k++) {
            x.cuts(k);
        }
        return x;
    }

    private static void refused(String name, View.Call call, int want) {
        due(name, call.on(scene.make()), want);
        changesNothing(name, scene, call);
    }

    // ---- what is not as told, in any scene

    /** Numbers just beyond and far beyond, for calls that take one or more. */
    private static void whatIsBad(int drives, int links, int orders) {
        for (int n : new int[] {-1, Integer.MIN_VALUE, Integer.MAX_VALUE}) {
            badOfDrives(n);
            badOfLinks(n);
            badOfOrders(n);
        }
        badOfDrives(drives);
        badOfLinks(links);
        badOfOrders(orders);
        badNumbersThatAreDone();
        badNumbersThatAreAsked();
    }

    private static void badOfDrives(int d) {
        refused("resets(" + d + ")", x -> x.resets(d), BAD);
        refused("sets(" + d + ", 0, 1)", x -> x.sets(d, 0, 1), BAD);
        refused("drifts(" + d + ", 1)", x -> x.drifts(d, 1), BAD);
        refused("drive(" + d + ", 0)", x -> x.drive(d, 0), NO);
    }

    private static void badOfLinks(int k) {
        refused("cuts(" + k + ")", x -> x.cuts(k), BAD);
        refused("heals(" + k + ")", x -> x.heals(k), BAD);
        refused("link(" + k + ", 0)", x -> x.link(k, 0), BAD);
    }

    private static void badOfOrders(int i) {
        refused("order(" + i + ", 0)", x -> x.order(i, 0), BAD);
        refused("result(" + i + ", 0)", x -> x.result(i, 0), BAD);
    }

    private static void badNumbersThatAreDone() {
        for (int n : new int[] {-1, 256, Integer.MIN_VALUE, Integer.MAX_VALUE}) {
            refused("type(" + n + ")", x -> x.type(n), BAD);
            refused("sets(0, 0, " + n + ")", x -> x.sets(0, 0, n), BAD);
            refused("sees(0, " + n + ")", x -> x.sees(0, n), BAD);
            refused("sees(5, " + n + ")", x -> x.sees(5, n), BAD);
        }
        for (int n : new int[] {0, -1, 21, Integer.MIN_VALUE, Integer.MAX_VALUE}) {
            refused("cycles(" + n + ")", x -> x.cycles(n), BAD);
        }
        for (int n : new int[] {-1, 4, Integer.MIN_VALUE, Integer.MAX_VALUE}) {
            refused("sets(0, " + n + ", 1)", x -> x.sets(0, n, 1), BAD);
        }
        for (int n : new int[] {-51, 51, Integer.MIN_VALUE, Integer.MAX_VALUE}) {
            refused("drifts(0, " + n + ")", x -> x.drifts(0, n), BAD);
        }
        for (int n : new int[] {-1, 6, Integer.MIN_VALUE, Integer.MAX_VALUE}) {
            refused("sees(" + n + ", 0)", x -> x.sees(n, 0), BAD);
            refused("sees(" + n + ", NONE)", x -> x.sees(n, NONE), BAD);
        }
        for (int what = 0; what <= 3; what++) {
            int order = what;
            refused("sees(" + what + ", NONE)", x -> x.sees(order, NONE), BAD);
        }
        refused("sees(4, -8)", x -> x.sees(4, -8), BAD);
        refused("sees(4, -10)", x -> x.sees(4, -10), BAD);
        for (int n : new int[] {-1, 2, Integer.MIN_VALUE, Integer.MAX_VALUE}) {
            refused("keep(" + n + ")", x -> x.keep(n), BAD);
            refused("back(" + n + ")", x -> x.back(n), BAD);
        }
    }

    private static void badNumbersThatAreAsked() {
        for (int n : new int[] {-1, 10, Integer.MIN_VALUE, Integer.MAX_VALUE}) {
            refused("drive(0, " + n + ")", x -> x.drive(0, n), NO);
        }
        for (int n : new int[] {-1, 2, Integer.MIN_VALUE, Integer.MAX_VALUE}) {
            refused("link(0, " + n + ")", x -> x.link(0, n), BAD);
            refused("result(0, " + n + ")", x -> x.result(0, n), BAD);
            refused("time(" + n + ")", x -> x.time(n), BAD);
            refused("reached(" + n + ")", x -> x.reached(n), BAD);
        }
        for (int n : new int[] {-1, 5, Integer.MIN_VALUE, Integer.MAX_VALUE}) {
            refused("order(0, " + n + ")", x -> x.order(0, n), BAD);
        }
        for (int n : new int[] {-1, 6, Integer.MIN_VALUE, Integer.MAX_VALUE}) {
            refused("would(" + n + ")", x -> x.would(n), BAD);
        }
        for (int n : new int[] {-1, 3, Integer.MIN_VALUE, Integer.MAX_VALUE}) {
            refused("which(" + n + ")", x -> x.which(n), BAD);
        }
        for (int n : new int[] {-1, 13, Integer.MIN_VALUE, Integer.MAX_VALUE}) {
            refused("count(" + n + ")", x -> x.count(n), BAD);
        }
    }

    // ---- scene by scene

    private static void ofANewObject() {
        promise = "refused by a new object";
        scene = RingFrames::new;
        whatIsBad(1, 1, 0);
        refused("wires()", RingFrames::wires, -10);
        refused("frames()", RingFrames::frames, -10);
        refused("heals(0)", x -> x.heals(0), STATE);
        refused("cycles(1)", x -> x.cycles(1), STATE);
        refused("cycles(20)", x -> x.cycles(20), STATE);
        refused("resets(0)", x -> x.resets(0), STATE);
        for (int i = 0; i <= 3; i++) {
            int at = i;
            refused("sets(0, " + at + ", 0)", x -> x.sets(0, at, 0), STATE);
        }
        refused("drifts(0, 0)", x -> x.drifts(0, 0), STATE);
        refused("undo()", RingFrames::undo, STATE);
        refused("back(0)", x -> x.back(0), STATE);
        refused("back(1)", x -> x.back(1), STATE);
    }

    private static void ofARingInUse() {
        promise = "refused by a ring in use";
        scene = RefusalsTest::inUse;
        whatIsBad(4, 5, 2);
        refused("frames()", RingFrames::frames, -10);
        refused("cuts(1), which is CUT", x -> x.cuts(1), STATE);
        refused("heals(0), which is WELL", x -> x.heals(0), STATE);
        refused("heals(4), which is WELL", x -> x.heals(4), STATE);
        refused("sets of a drive that is SAFE", x -> x.sets(0, 0, 1), STATE);
        refused("sets of a drive that is SAFE, to what is", x -> x.sets(3, 3, 0), STATE);
        refused("sets to what is", x -> x.sets(2, 3, 12), STATE);
        refused("drifts to what is", x -> x.drifts(1, 7), STATE);
        refused("drifts to what is", x -> x.drifts(0, -4), STATE);
        refused("drifts to what is", x -> x.drifts(3, 0), STATE);
        scene = () -> {
            RingFrames x = inUse();
            x.cycles(1);
            return x;
        };
        refused("resets of one that is not SAFE and has no MISS", x -> x.resets(1), STATE);
    }

    private static void ofAFullObject() {
        promise = "refused by a full object";
        scene = RefusalsTest::full;
        whatIsBad(6, 7, 4);
        refused("type(' ')", x -> x.type(' '), FULL);
        refused("type(0)", x -> x.type(0), FULL);
        refused("type(255)", x -> x.type(255), FULL);
        refused("frames()", RingFrames::frames, -125);
        for (int i = 0; i <= 5; i++) {
            int what = i;
            refused("sees(" + what + ", 0)", x -> x.sees(what, 0), FULL);
            refused("sees(" + what + ", 255)", x -> x.sees(what, 255), FULL);
        }
        refused("sees(4, NONE)", x -> x.sees(4, NONE), FULL);
        refused("sees(5, NONE)", x -> x.sees(5, NONE), FULL);
        refused("resets(5)", x -> x.resets(5), STATE);
        refused("heals(6)", x -> x.heals(6), STATE);
    }

    private static void ofARingWithAllLinksCut() {
        promise = "refused by a ring with all links cut";
        scene = RefusalsTest::allCut;
        for (int i = 0; i <= 4; i++) {
            int k = i;
            refused("cuts(" + k + ")", x -> x.cuts(k), STATE);
        }
        refused("measures()", RingFrames::measures, STATE);
        refused("back(0)", x -> x.back(0), STATE);
        scene = () -> {
            RingFrames x = allCut();
            x.cycles(1);
            return x;
        };
        refused("cuts(0), which stays no new cut", x -> x.cuts(0), STATE);
        refused("measures()", RingFrames::measures, STATE);
    }

    private static void ofAWholeRing() {
        promise = "refused by a whole ring";
        scene = () -> {
            RingFrames x = ring(CLOSED, "rb0 0;");
            x.drifts(2, 9);
            x.keep(0);
            return x;
        };
        refused("measures()", RingFrames::measures, STATE);
        refused("back(1), the other one being kept", x -> x.back(1), STATE);
        scene = () -> {
            RingFrames x = ring(CLOSED, "rb0 0;");
            x.keep(1);
            x.back(1);
            return x;
        };
        refused("undo() behind back()", RingFrames::undo, STATE);
        refused("back(0), the other one being kept", x -> x.back(0), STATE);
    }

    private static void ofAFrameWithoutACycle() {
        promise = "no cycle since the frame was told";
        scene = () -> {
            RingFrames x = ring(CLOSED, "wb0 7;rb0 0;");
            x.cycles(2);
            frame(x, "xs6 1 9;");
            return x;
        };
        refused("result(0, 0)", x -> x.result(0, 0), NONE);
        refused("result(0, 1)", x -> x.result(0, 1), NONE);
        refused("result(1, 0)", x -> x.result(1, 0), BAD);
        refused("time(0)", x -> x.time(0), NONE);
        refused("time(1)", x -> x.time(1), NONE);
        refused("order(1, 0)", x -> x.order(1, 0), BAD);
    }

    // ---- which comes first

    private static void badIsAheadOfState() {
        promise = "BAD is ahead of STATE";
        scene = RingFrames::new;
        refused("cycles(0) without a FRAME", x -> x.cycles(0), BAD);
        refused("cycles(21) without a FRAME", x -> x.cycles(21), BAD);
        refused("back(2), none being kept", x -> x.back(2), BAD);
        refused("back(-1), none being kept", x -> x.back(-1), BAD);
        scene = RefusalsTest::inUse;
        refused("at 4 of a drive that is SAFE", x -> x.sets(0, 4, 0), BAD);
        refused("at -1 of a drive that is SAFE", x -> x.sets(0, -1, 0), BAD);
        refused("v 256 of a drive that is SAFE", x -> x.sets(0, 0, 256), BAD);
        refused("v -1 of a drive that is SAFE", x -> x.sets(3, 3, -1), BAD);
    }

    private static void badIsAheadOfFull() {
        promise = "BAD is ahead of FULL";
        scene = RefusalsTest::full;
        refused("type(256)", x -> x.type(256), BAD);
        refused("type(-1)", x -> x.type(-1), BAD);
        refused("sees(6, 0)", x -> x.sees(6, 0), BAD);
        refused("sees(-1, 0)", x -> x.sees(-1, 0), BAD);
        refused("sees(0, 256)", x -> x.sees(0, 256), BAD);
        refused("sees(3, NONE)", x -> x.sees(3, NONE), BAD);
        refused("sees(5, -8)", x -> x.sees(5, -8), BAD);
    }

    private static void badIsAheadOfNone() {
        promise = "BAD is ahead of NONE";
        scene = () -> ring(CLOSED, "rb0 0;");
        refused("result(1, 0) without a CYCLE", x -> x.result(1, 0), BAD);
        refused("result(0, 2) without a CYCLE", x -> x.result(0, 2), BAD);
        refused("result(0, -1) without a CYCLE", x -> x.result(0, -1), BAD);
        refused("time(2) without a CYCLE", x -> x.time(2), BAD);
        refused("order(1, 2)", x -> x.order(1, 2), BAD);
        refused("order(0, 5) of b", x -> x.order(0, 5), BAD);
        scene = RefusalsTest::allCut;
        refused("which(3), none being WELL", x -> x.which(3), BAD);
        refused("would(6), none coming", x -> x.would(6), BAD);
    }

    // ---- what only tells

    private static void whatOnlyTells() {
        promise = "nothing is changed by what only tells";
        View.Maker[] scenes = {RingFrames::new, RefusalsTest::inUse, RefusalsTest::full, RefusalsTest::allCut};
        for (View.Maker one : scenes) {
            changesNothing("which", one, x -> x.which(0) + x.which(1) + x.which(2));
            changesNothing("ask", one, RingFrames::ask);
            changesNothing("would", one, RefusalsTest::askAllThatWouldBe);
            changesNothing("reached", one, x -> x.reached(0) + x.reached(1));
            changesNothing("drive", one, x -> x.drive(0, 0) + x.drive(0, 9));
            changesNothing("link", one, x -> x.link(0, 0) + x.link(0, 1));
            changesNothing("order, result, time", one, x -> x.order(0, 0) + x.result(0, 0) + x.time(0));
            changesNothing("count", one, x -> x.count(8) + x.count(9));
        }
    }

    private static int askAllThatWouldBe(RingFrames x) {
        int sum = 0;
        for (int what = 0; what <= 5; what++) {
            sum += x.would(what);
        }
        return sum;
    }
}
