/** For each promise of the document: ordinary calls, the edges that it names, and wrong inputs. */
public final class PromisesTest extends Check {
    public static void main(String[] args) {
        aNewObject();
        type();
        clear();
        wires();
        wireFaults();
        frames();
        frameFaults();
        cuts();
        heals();
        cyclesCountMisses();
        cyclesThatSendNothing();
        ordersInACycle();
        ordersOfSafeDrives();
        resultsOfBothCopies();
        resets();
        sets();
        drifts();
        measures();
        undo();
        undoOfEach();
        drive();
        link();
        order();
        result();
        time();
        reached();
        would();
        sees();
        forget();
        which();
        ask();
        keepAndBack();
        count();
        allThatThereMayBe();
        exitIfWrong();
    }

    private static void aNewObject() {
        promise = "1 a new object";
        RingFrames x = new RingFrames();
        int[] counts = {1, 1, 0, 3, 0, 0, 0, 0, 0, 0, 0, 0, 0};
        for (int what = 0; what < counts.length; what++) {
            due("count(" + what + ")", x.count(what), counts[what]);
        }
        for (int what = 0; what <= 9; what++) {
            due("drive(0, " + what + ")", x.drive(0, what), 0);
        }
        due("link(0, 0)", x.link(0, 0), 1);
        due("link(0, 1)", x.link(0, 1), 0);
        due("drive(1, 0)", x.drive(1, 0), NO);
        due("link(1, 0)", x.link(1, 0), BAD);
        due("order(0, 0)", x.order(0, 0), BAD);
        due("result(0, 0)", x.result(0, 0), BAD);
        due("time(0)", x.time(0), NONE);
        due("time(1)", x.time(1), NONE);
        due("back(0)", x.back(0), STATE);
        due("undo()", x.undo(), STATE);
    }

    private static void type() {
        promise = "2 type";
        RingFrames x = new RingFrames();
        due("type(0)", x.type(0), 1);
        due("type(255)", x.type(255), 2);
        due("type(256)", x.type(256), BAD);
        for (int letter : OUTSIDE) {
            due("type(" + letter + ")", x.type(letter), BAD);
        }
        for (int i = 3; i <= 120; i++) {
            due("type(32)", x.type(32), i);
        }
        due("type(32) beyond 120", x.type(32), FULL);
        due("type(256) beyond 120", x.type(256), BAD);
        due("count(11)", x.count(11), 120);
    }

    private static void clear() {
        promise = "3 clear";
        RingFrames x = new RingFrames();
        due("clear()", x.clear(), 0);
        typeAll(x, "d1 1;");
        due("clear()", x.clear(), 5);
        due("clear()", x.clear(), 0);
        due("count(12)", x.count(12), 0);
        due("type(100)", x.type(100), 1);
    }

    private static void wires() {
        promise = "4 wires";
        RingFrames x = new RingFrames();
        due("a wire with blanks", wire(x, "  m 1;  d1 15 ;d 9 0; z7 ;"), 2);
        due("the text is empty", x.count(11), 0);
        due("count(2)", x.count(2), 1);
        due("LIMIT", x.count(3), 1);
        due("STATION", x.drive(0, 0), 15);
        due("STATION", x.drive(1, 0), 0);
        due("LENGTH", x.link(0, 0), 1);
        due("LENGTH", x.link(1, 0), 9);
        due("LENGTH", x.link(2, 0), 7);
        due("m behind z", wire(x, "d1 1;z2;m9;"), 1);
        due("LIMIT", x.count(3), 9);
        due("m between", wire(x, "d1 1;m4;d1 1;"), 2);
        due("LIMIT", x.count(3), 4);
        due("LIMIT not told", wire(x, "d1 1;") * 10 + x.count(3), 13);
        due("six drives", wire(x, "d1 1;d2 2;d3 3;d4 4;d5 5;d6 6;z7;"), 6);
        due("links", x.count(1), 7);
        wiresMakesAllNew();
        aSmallerWireForgetsTheRest();
    }

    private static void wiresMakesAllNew() {
        RingFrames x = ring(CLOSED, "wb0 7;");
        x.cycles(1);
        x.cuts(1);
        x.drifts(0, 9);
        x.cuts(0);
        x.cuts(4);
        x.cycles(5);
        x.measures();
        x.sees(0, 1);
        x.cuts(2);
        frame(x, "wb0 7;");
        due("a wire told again", wire(x, CLOSED), 4);
        int[] counts = {4, 5, 1, 3, 0, 0, 0, 0, 0, 0, 1, 0, 6};
        for (int what = 0; what < counts.length; what++) {
            due("count(" + what + ") of it", x.count(what), counts[what]);
        }
        for (int d = 0; d < 4; d++) {
            for (int what = 1; what <= 9; what++) {
                due("drive(" + d + ", " + what + ") of it", x.drive(d, what), 0);
            }
        }
        due("time(0) of it", x.time(0), NONE);
        frame(x, "wb0 7;");
        due("result(0, 0) of it", x.result(0, 0), NONE);
    }

    private static void aSmallerWireForgetsTheRest() {
        RingFrames x = ring("d1 1;d1 2;d1 3;z1;m1;", "rs1 0 0;");
        x.drifts(1, 9);
        x.drifts(2, 9);
        x.cuts(1);
        x.cuts(3);
        x.cycles(1);
        frame(x, "rs1 0 0;");
        due("a smaller wire", wire(x, "d1 1;"), 1);
        due("LINKS that are CUT", x.count(5), 0);
        due("DRIVES that are SAFE", x.count(6), 0);
        due("SPREAD", x.count(9), 0);
        due("DRIVES beyond", x.drive(1, 0), NO);
        due("LINKS beyond", x.link(1, 0), BAD);
        frame(x, "rs7 0 0;");
        x.cycles(2);
        due("a larger wire", wire(x, "d1 1;d1 2;"), 2);
        due("MISSES", x.drive(0, 5) + x.drive(1, 5), 0);
        due("OFFSET", x.drive(1, 7), 0);
        due("SAFE", x.count(6), 0);
        due("CUT", x.count(5), 0);
    }

    private static void wireFault(String text, int fault) {
        RingFrames x = ring(CLOSED, "rb0 0;");
        due("wires() of '" + text + "'", wire(x, text), -10 - fault);
        due("the text stays of '" + text + "'", x.count(11), text.length());
        due("DRIVES stay", x.count(0), 4);
        due("ORDERS stay", x.count(4), 1);
        due("UNDONE stays", x.count(12), 2);
    }

    private static void wireFaults() {
        promise = "4 wires, FAULT";
        wireFault("", 0);
        wireFault("   ", 3);
        wireFault("m3;", 3);
        wireFault("m3; ", 4);
        wireFault("z1;", 0);
        wireFault("m1; z1;d1 1;", 4);
        wireFault("d0 1;", 1);
        wireFault("d10 1;", 1);
        wireFault("d1 16;", 3);
        wireFault("d1 256;", 3);
        wireFault("d1 4294967296;", 3);
        wireFault("d1 00;", 3);
        wireFault("d1 01;", 3);
        wireFault("d11;", 1);
        wireFault("d1;", 2);
        wireFault("d;", 1);
        wireFault("d1 1", 4);
        wireFault("d1 1  ", 6);
        wireFault("d1 ", 3);
        wireFault("d", 1);
        wireFault("d1 1 1;", 5);
        wireFault("d1 1d1 1;", 4);
        wireFault("d1 1;;", 5);
        wireFault(";", 0);
        wireFault("1", 0);
        wireFault("d1 1;z0;", 6);
        wireFault("d1 1;z10;", 6);
        wireFault("d1 1;z1", 7);
        wireFault("d1 1;z1 1;", 8);
        wireFault("d1 1;z1;z1;", 8);
        wireFault("d1 1;z1; d1 1;", 9);
        wireFault("m1;m1;", 3);
        wireFault("d1 1;m0;", 6);
        wireFault("d1 1;m10;", 6);
        wireFault("m1 1;", 3);
        wireFault("D1 1;", 0);
        wireFault("d1 1;q", 5);
        wireFault("d1,1;", 2);
        wireFault("d-1 1;", 1);
        wireFault("d1\t1;", 2);
        wireFault("d1 1;" + (char) 200, 5);
        for (char other : "rwxpsb".toCharArray()) {
            wireFault("d1 1;" + other, 5);
        }
        wireFault("d1 1;d1 1;d1 1;d1 1;d1 1;d1 1;d1 1;", 30);
        wireFault("d1 1;d1 16;d0 1;", 8);
        wireFault("dd1 1;", 1);
        wireFault("d1 d1 1;", 3);
        wireFault("d1 1 z1;", 5);
        wireFault("dm1;d1 1;", 1);
        wireFault("d1 1;zm1;", 6);
        wireFault("d1 1;z1m1;", 7);
        wireFault("d1 1;m d1 1;", 7);
        wireFault("d1 1;m1d1 1;", 7);
        wireFault("d1 1;m1;m1;", 8);
        wireFault("d1 1;z1;m1;d", 11);
    }

    private static void frames() {
        promise = "5 frames";
        RingFrames x = ring(CLOSED, "");
        x.cuts(2);
        due("four orders", frame(x, " r p 15 0 255;ws0 3 0; xb 1 9 ;rb2 1;"), 4);
        due("the text is empty", x.count(11), 0);
        due("a cut is not forgotten", x.count(8), 1);
        x.cycles(2);
        due("CYCLES", x.count(7), 2);
        due("result", x.result(2, 0), 12);
        due("one order", frame(x, "xb1 9;"), 1);
        due("no RESULT then", x.result(0, 0), NONE);
        due("no TIME then", x.time(0), NONE);
        due("CYCLES stay", x.count(7), 2);
        due("BYTES stay", x.drive(2, 2), 9);
        due("no other ORDER", x.order(1, 0), BAD);
    }

    private static void frameFault(String text, int fault) {
        RingFrames x = ring(CLOSED, "rb0 0;wb1 1;");
        x.cycles(1);
        due("frames() of '" + text + "'", frame(x, text), -10 - fault);
        due("the text stays of '" + text + "'", x.count(11), text.length());
        due("ORDERS stay", x.count(4), 2);
        due("ORDER 0 stays", x.order(0, 0), 'r');
        due("RESULT stays", x.result(0, 0), 4);
        due("TIME stays", x.time(0), 19);
        due("UNDONE stays", x.count(12), 3);
    }

    private static void frameFaults() {
        promise = "5 frames, FAULT";
        frameFault("", 0);
        frameFault("  ", 2);
        frameFault("r", 1);
        frameFault("rb", 2);
        frameFault("rb0", 3);
        frameFault("rb0 1", 5);
        frameFault("rb0 1 ", 6);
        frameFault("rp 16 0 0;", 3);
        frameFault("rs 16 0 0;", 3);
        frameFault("rb 4 0;", 3);
        frameFault("rp1 4 0;", 4);
        frameFault("wb0 256;", 4);
        frameFault("wb0 00;", 4);
        frameFault("wb0 0255;", 4);
        frameFault("wb0 9 9;", 6);
        frameFault("ws;", 2);
        frameFault("wp1 1;", 5);
        frameFault("r0 0;", 1);
        frameFault("rr0 0;", 1);
        frameFault("b0 0;", 0);
        frameFault("rb0 0;;", 6);
        frameFault("rb0 0;d", 6);
        frameFault("rb0 0;z", 6);
        frameFault("rb0 0;m", 6);
        frameFault("rb0 0;p", 6);
        frameFault("rd0 0;", 1);
        frameFault("rwb0 0;", 1);
        frameFault("rpwb0 0;", 2);
        frameFault("rbwb0 0;", 2);
        frameFault("rb0 wb0 0;", 4);
        frameFault("rb0 0wb0 0;", 5);
        frameFault("R", 0);
        frameFault("rb0 0?;", 5);
        frameFault("rb0 0;wb0 0;xb0 0;rb0 0;  r", 26);
        frameFault("rb0 0;wb0 0;xb0 0;rb0 0;5", 24);
    }

    private static void cuts() {
        promise = "6 cuts";
        RingFrames x = ring(CLOSED, "rb0 0;");
        due("cuts(4)", x.cuts(4), 1);
        due("cuts(4) again", x.cuts(4), STATE);
        due("cuts(0)", x.cuts(0), 2);
        due("cuts(5)", x.cuts(5), BAD);
        for (int k : OUTSIDE) {
            due("cuts(" + k + ")", x.cuts(k), BAD);
        }
        due("count(5)", x.count(5), 2);
        due("count(8)", x.count(8), 1);
        due("count(12)", x.count(12), 4);
        due("an open ring has no last link", ring(OPEN, "").cuts(4), BAD);
    }

    private static void heals() {
        promise = "7 heals";
        RingFrames x = ring(CLOSED, "rb0 0;");
        due("heals(1)", x.heals(1), STATE);
        x.cuts(1);
        x.cuts(4);
        due("heals(1)", x.heals(1), 1);
        due("heals(1)", x.heals(1), STATE);
        due("heals(4)", x.heals(4), 0);
        due("heals(5)", x.heals(5), BAD);
        for (int k : OUTSIDE) {
            due("heals(" + k + ")", x.heals(k), BAD);
        }
        due("it was cut all the same", x.count(8), 1);
        due("count(12)", x.count(12), 6);
        due("it is as ever", x.would(4), 19);
    }

    private static void cyclesCountMisses() {
        promise = "8 cycles";
        RingFrames x = ring("d1 1;d1 2;d1 3;m4;", "");
        due("no FRAME", x.cycles(1), STATE);
        due("BAD is ahead of STATE", x.cycles(21), BAD);
        frame(x, "ws2 0 9;");
        due("cycles(0)", x.cycles(0), BAD);
        due("cycles(21)", x.cycles(21), BAD);
        for (int n : OUTSIDE) {
            due("cycles(" + n + ")", x.cycles(n), BAD);
        }
        x.sets(2, 3, 77);
        due("cycles(3)", x.cycles(3), 0);
        due("MISSES", x.drive(0, 5), 3);
        due("no MISS", x.drive(1, 5), 0);
        due("a BYTE ahead of SAFE", x.drive(2, 4), 77);
        due("the fourth", x.cycles(1), 2);
        due("SAFE", x.drive(2, 6), 1);
        due("BYTES are 0", x.drive(2, 4), 0);
        due("not SAFE", x.drive(1, 6), 0);
        due("cycles(20)", x.cycles(20), 2);
        due("MISSES go on", x.drive(0, 5), 24);
        due("CYCLES", x.count(7), 24);
        frame(x, "rb0 0;");
        due("still SAFE", x.cycles(1), 2);
        due("no MISS", x.drive(0, 5), 0);
        due("one call is one to be undone", x.undo() >= 0 ? x.count(7) : STATE, 24);
        RingFrames one = ring("d1 1;m1;", "rs2 0 0;");
        due("LIMIT 1", one.cycles(1), 1);
    }

    private static void cyclesThatSendNothing() {
        promise = "8 cycles that send nothing";
        RingFrames x = ring(CLOSED, "wb2 8;rb2 1;");
        x.cuts(3);
        x.heals(3);
        due("cycles(1)", x.cycles(1), 0);
        due("COUNT", x.result(0, 0), 0);
        due("DATA", x.result(0, 1), 8);
        due("DATA", x.result(1, 1), 1);
        due("TIME", x.time(0), NONE);
        due("BYTE", x.drive(0, 3), 0);
        due("MISS", x.drive(0, 5), 1);
        due("CYCLES", x.count(7), 1);
        due("count(8)", x.count(8), 0);
        x.cycles(1);
        due("COUNT", x.result(0, 0), 4);
        due("DATA", x.result(1, 1), 9);
        due("TIME", x.time(1), 19);
        due("MISS", x.drive(0, 5), 0);
        x.cuts(0);
        x.cycles(1);
        due("TIME was, is not", x.time(1), NONE);
        x.cuts(4);
        x.cycles(2);
        due("both ends cut: COUNT", x.result(0, 0), 0);
        due("both ends cut: DATA", x.result(1, 1), 1);
        due("both ends cut: TIME", x.time(0), NONE);
        due("both ends cut: MISSES", x.drive(3, 5), 3);
    }

    private static void ordersInACycle() {
        promise = "8 orders in a cycle";
        RingFrames x = ring(OPEN, "rp1 0 200;wp3 1 9;xs6 2 50;rb3 1;");
        x.sets(1, 0, 11);
        x.sets(1, 2, 21);
        x.sets(2, 2, 22);
        x.sets(0, 3, 6);
        x.sets(3, 3, 24);
        x.cycles(1);
        due("r p: COUNT", x.result(0, 0), 1);
        due("r p: DATA", x.result(0, 1), 11);
        due("w p: COUNT", x.result(1, 0), 1);
        due("w p: DATA", x.result(1, 1), 9);
        due("w p: BYTE", x.drive(3, 2), 9);
        due("x s: COUNT", x.result(2, 0), 6);
        due("x s: DATA", x.result(2, 1), 22);
        due("x s: the first has V", x.drive(1, 3), 50);
        due("x s: the second has the first's", x.drive(2, 3), 21);
        due("r b: COUNT", x.result(3, 0), 4);
        due("r b: DATA", x.result(3, 1), 31);
        RingFrames y = ring("d1 3;d1 3;", "ws3 0 7;xs3 0 8;rs3 0 9;rp5 0 4;");
        y.cycles(1);
        due("order by order: BYTE", y.drive(1, 1), 7);
        due("order by order: x DATA", y.result(1, 1), 7);
        due("order by order: r DATA", y.result(2, 1), 7);
        due("r s of two: COUNT", y.result(2, 0), 2);
        due("a place that there is not: COUNT", y.result(3, 0), 0);
        due("a place that there is not: DATA", y.result(3, 1), 4);
    }

    private static void ordersOfSafeDrives() {
        promise = "8 orders and SAFE";
        RingFrames x = ring("d1 1;m1;", "rs2 0 0;");
        x.cycles(1);
        frame(x, "wb0 5;xb0 6;rb0 8;");
        due("SAFE", x.cycles(1), 1);
        due("w: COUNT", x.result(0, 0), 0);
        due("w: DATA", x.result(0, 1), 5);
        due("x: COUNT", x.result(1, 0), 1);
        due("x: DATA", x.result(1, 1), 0);
        due("r: COUNT", x.result(2, 0), 1);
        due("r: DATA", x.result(2, 1), 8);
        due("BYTE", x.drive(0, 1), 0);
        frame(x, "wp0 0 5;");
        x.cycles(1);
        due("w for one that is SAFE is no MISS", x.drive(0, 5), 0);
        due("it stays SAFE", x.drive(0, 6), 1);
    }

    private static void resultsOfBothCopies() {
        promise = "8 results of both copies";
        RingFrames x = ring(CLOSED, "rp1 0 200;wp1 1 9;xs6 2 50;rb3 1;");
        x.cuts(2);
        x.cycles(1);
        x.sets(1, 0, 11);
        x.sets(3, 0, 13);
        x.sets(1, 2, 21);
        x.sets(2, 2, 22);
        x.sets(0, 3, 2);
        x.sets(3, 3, 4);
        x.cycles(1);
        due("r p: COUNT", x.result(0, 0), 2);
        due("r p: DATA is copy B's", x.result(0, 1), 13);
        due("w p: both", x.drive(1, 2) * 100 + x.drive(3, 2), 909);
        due("x s: COUNT", x.result(2, 0), 6);
        due("x s: DATA is copy B's", x.result(2, 1), 22);
        due("x s: copy B begins with V", x.drive(2, 3), 50);
        due("r b: all bits of both", x.result(3, 1), 7);
        frame(x, "rp1 0 200;rs5 0 3;");
        x.sets(0, 0, 77);
        x.heals(2);
        x.cuts(3);
        x.cycles(2);
        due("copy B had none: DATA is copy A's", x.result(0, 1), 11);
        due("copy B had none: DATA is copy A's", x.result(1, 1), 77);
        due("copy A alone: COUNT", x.result(0, 0), 1);
        frame(x, "rs9 0 3;");
        x.cycles(1);
        due("copy A had none: DATA is copy B's", x.result(0, 1), 13);
    }

    private static void resets() {
        promise = "9 resets";
        RingFrames x = ring(CLOSED, "rs6 0 0;");
        due("resets(0)", x.resets(0), STATE);
        due("resets(4)", x.resets(4), BAD);
        for (int d : OUTSIDE) {
            due("resets(" + d + ")", x.resets(d), BAD);
        }
        x.cycles(2);
        due("MISSES, not SAFE", x.resets(0), 2);
        due("MISSES then", x.drive(0, 5), 0);
        x.cycles(3);
        due("SAFE", x.resets(0), 3);
        due("SAFE then", x.drive(0, 6), 0);
        due("MISSES then", x.drive(0, 5), 0);
        due("again", x.resets(0), STATE);
        due("the other one", x.resets(3), 5);
        RingFrames y = ring("d1 1;m1;", "rs2 0 0;");
        y.cycles(1);
        frame(y, "rb0 0;");
        y.cycles(1);
        due("SAFE without a MISS", y.resets(0), 0);
        due("SAFE then", y.count(6), 0);
    }

    private static void sets() {
        promise = "10 sets";
        RingFrames x = ring(CLOSED, "rs9 0 0;");
        due("sets(0, 0, 255)", x.sets(0, 0, 255), 0);
        due("sets(0, 0, 255)", x.sets(0, 0, 255), STATE);
        due("sets(0, 0, 0)", x.sets(0, 0, 0), 255);
        due("sets(3, 3, 1)", x.sets(3, 3, 1), 0);
        due("it is", x.drive(3, 4), 1);
        due("sets(4, 0, 1)", x.sets(4, 0, 1), BAD);
        due("sets(0, 4, 1)", x.sets(0, 4, 1), BAD);
        due("sets(0, 0, 256)", x.sets(0, 0, 256), BAD);
        for (int n : OUTSIDE) {
            due("drive " + n, x.sets(n, 0, 1), BAD);
            due("at " + n, x.sets(0, n, 1), BAD);
            due("v " + n, x.sets(0, 0, n), BAD);
        }
        x.cycles(3);
        due("SAFE", x.sets(0, 0, 5), STATE);
        due("BAD is ahead of STATE", x.sets(0, 0, 256), BAD);
        due("not SAFE", x.sets(3, 0, 5), 0);
    }

    private static void drifts() {
        promise = "11 drifts";
        RingFrames x = ring(CLOSED, "");
        due("drifts(0, 0)", x.drifts(0, 0), STATE);
        due("drifts(0, 50)", x.drifts(0, 50), 1);
        due("drifts(0, 50)", x.drifts(0, 50), STATE);
        due("drifts(3, -50)", x.drifts(3, -50), 1);
        due("drifts(0, 51)", x.drifts(0, 51), BAD);
        due("drifts(0, -51)", x.drifts(0, -51), BAD);
        due("drifts(4, 1)", x.drifts(4, 1), BAD);
        for (int d : OUTSIDE) {
            due("drifts(" + d + ", 1)", x.drifts(d, 1), BAD);
        }
        due("OFFSET", x.drive(3, 7), -50);
        due("LEARNT", x.drive(3, 8), 0);
        due("OFF", x.drive(3, 9), -50);
        due("SPREAD", x.count(9), 100);
        due("count(12)", x.count(12), 3);
    }

    private static void measures() {
        promise = "12 measures";
        RingFrames x = ring(CLOSED, "");
        for (int d = 0; d < 4; d++) {
            x.drifts(d, 10 + d);
        }
        due("none turns", x.measures(), STATE);
        x.cuts(1);
        x.cuts(3);
        due("both ends", x.measures(), 2);
        due("LEARNT of 0", x.drive(0, 8), 10);
        due("LEARNT of 1", x.drive(1, 8), 0);
        due("LEARNT of 2", x.drive(2, 8), 0);
        due("LEARNT of 3", x.drive(3, 8), 13);
        due("SPREAD", x.count(9), 12);
        due("again", x.measures(), 2);
        x.cuts(0);
        due("copy B alone", x.measures(), 1);
        x.cuts(4);
        due("none is come to", x.measures(), STATE);
        RingFrames y = ring(OPEN, "");
        due("open", y.measures(), 4);
        y.cuts(2);
        due("open and cut", y.measures(), 2);
        y.cuts(0);
        due("open and cut at once", y.measures(), STATE);
        due("the last link alone", lastCut().measures(), 4);
    }

    private static RingFrames lastCut() {
        RingFrames x = ring(CLOSED, "rb0 0;");
        x.cuts(4);
        return x;
    }

    private static void undo() {
        promise = "13 undo";
        RingFrames x = new RingFrames();
        due("undo()", x.undo(), STATE);
        for (int v = 1; v <= 8; v++) {
            x.drifts(0, v);
        }
        due("count(12)", x.count(12), 6);
        for (int left = 5; left >= 0; left--) {
            due("undo()", x.undo(), left);
            due("OFFSET", x.drive(0, 7), left + 2);
        }
        due("undo()", x.undo(), STATE);
        due("OFFSET", x.drive(0, 7), 2);
        x.drifts(0, 3);
        x.drifts(0, 3);
        x.cuts(9);
        x.type('q');
        x.wires();
        x.keep(0);
        x.sees(0, 0);
        due("refused ones and others are not known", x.count(12), 1);
        due("undo()", x.undo(), 0);
        due("THE TEXT stays", x.count(11), 1);
        due("SEEN stays", x.count(10), 1);
        due("OFFSET", x.drive(0, 7), 2);
        x.drifts(0, 9);
        x.drifts(0, 8);
        x.undo();
        x.drifts(0, 7);
        due("undo()", x.undo(), 1);
        due("OFFSET", x.drive(0, 7), 9);
    }

    private static void undoOfEach() {
        promise = "13 undo of each";
        RingFrames x = ring(CLOSED, "wb0 7;rb0 1;");
        x.cycles(1);
        wire(x, "d1 1;");
        due("a wire undone", x.undo(), 3);
        due("DRIVES", x.count(0), 4);
        due("CLOSED", x.count(2), 1);
        due("ORDERS", x.count(4), 2);
        due("RESULT", x.result(1, 1), 7);
        due("TIME", x.time(0), 19);
        due("CYCLES", x.count(7), 1);
        due("THE TEXT", x.count(11), 0);
        frame(x, "xb0 8;");
        due("a frame undone", x.undo(), 3);
        due("ORDERS", x.count(4), 2);
        due("RESULT", x.result(1, 1), 7);
        x.cuts(1);
        due("a cut undone", x.undo(), 3);
        due("count(8)", x.count(8), 0);
        due("count(5)", x.count(5), 0);
        x.cuts(1);
        x.heals(1);
        due("a heal undone", x.undo(), 4);
        due("count(5)", x.count(5), 1);
        x.cycles(20);
        due("cycles undone", x.undo(), 4);
        due("count(8)", x.count(8), 1);
        due("CYCLES", x.count(7), 1);
        due("MISSES", x.drive(0, 5), 0);
        due("TIME", x.time(0), 19);
        x.sets(0, 0, 99);
        due("a BYTE undone", x.undo() * 1000 + x.drive(0, 1), 4007);
        x.drifts(0, 9);
        x.measures();
        due("measures undone", x.undo() * 1000 + x.drive(0, 8), 5000);
        due("drifts undone", x.undo() * 1000 + x.drive(0, 7), 4000);
        x.cycles(1);
        x.resets(0);
        due("resets undone", x.undo() * 1000 + x.drive(0, 5), 5001);
    }

    private static void drive() {
        promise = "14 drive";
        RingFrames x = ring(CLOSED, "rs6 0 0;");
        x.sets(3, 0, 1);
        x.sets(3, 1, 2);
        x.sets(3, 2, 3);
        x.sets(3, 3, 4);
        x.cycles(2);
        x.drifts(3, -5);
        x.cuts(0);
        x.measures();
        x.drifts(3, 7);
        int[] want = {9, 1, 2, 3, 4, 2, 0, 7, -5, 12};
        for (int what = 0; what < want.length; what++) {
            due("drive(3, " + what + ")", x.drive(3, what), want[what]);
        }
        due("drive(3, 10)", x.drive(3, 10), NO);
        due("drive(4, 0)", x.drive(4, 0), NO);
        for (int n : OUTSIDE) {
            due("drive(" + n + ", 0)", x.drive(n, 0), NO);
            due("drive(0, " + n + ")", x.drive(0, n), NO);
        }
        x.cycles(3);
        due("SAFE", x.drive(3, 6), 1);
        due("BYTE", x.drive(3, 1), 0);
        due("OFFSET stays", x.drive(3, 7), 7);
    }

    private static void link() {
        promise = "15 link";
        RingFrames x = ring(CLOSED, "");
        x.cuts(4);
        due("link(4, 0)", x.link(4, 0), 5);
        due("link(4, 1)", x.link(4, 1), 1);
        due("link(3, 0)", x.link(3, 0), 4);
        due("link(3, 1)", x.link(3, 1), 0);
        due("link(5, 0)", x.link(5, 0), BAD);
        due("link(0, 2)", x.link(0, 2), BAD);
        for (int n : OUTSIDE) {
            due("link(" + n + ", 0)", x.link(n, 0), BAD);
            due("link(0, " + n + ")", x.link(0, n), BAD);
        }
        due("a last link that there is not", ring(OPEN, "").link(4, 0), BAD);
    }

    private static void order() {
        promise = "16 order";
        RingFrames x = ring(CLOSED, "rp15 3 255;ws4 2 9;xb1 0;");
        int[][] want = {{'r', 'p', 15, 3, 255}, {'w', 's', 4, 2, 9}, {'x', 'b', NONE, 1, 0}};
        x.cycles(2);
        for (int i = 0; i < 3; i++) {
            for (int what = 0; what < 5; what++) {
                due("order(" + i + ", " + what + ")", x.order(i, what), want[i][what]);
            }
        }
        due("order(3, 0)", x.order(3, 0), BAD);
        due("order(0, 5)", x.order(0, 5), BAD);
        for (int n : OUTSIDE) {
            due("order(" + n + ", 0)", x.order(n, 0), BAD);
            due("order(0, " + n + ")", x.order(0, n), BAD);
        }
    }

    private static void result() {
        promise = "17 result";
        RingFrames x = ring(CLOSED, "wb0 7;rb0 1;");
        due("no CYCLE", x.result(1, 0), NONE);
        due("no such ORDER", x.result(2, 0), BAD);
        due("no such thing", x.result(0, 2), BAD);
        for (int n : OUTSIDE) {
            due("result(" + n + ", 0)", x.result(n, 0), BAD);
            due("result(0, " + n + ")", x.result(0, n), BAD);
        }
        x.cycles(1);
        due("COUNT", x.result(1, 0), 4);
        due("DATA", x.result(1, 1), 7);
        x.would(0);
        x.cuts(0);
        x.ask();
        due("COUNT of the latest CYCLE", x.result(1, 0), 4);
        due("no such ORDER", x.result(2, 0), BAD);
    }

    private static void time() {
        promise = "18 time";
        RingFrames x = ring(CLOSED, "wb0 7;");
        due("no CYCLE", x.time(0), NONE);
        due("time(2)", x.time(2), BAD);
        for (int n : OUTSIDE) {
            due("time(" + n + ")", x.time(n), BAD);
        }
        x.cycles(1);
        due("whole: A", x.time(0), 19);
        due("whole: B", x.time(1), 19);
        x.cuts(2);
        due("it is the latest CYCLE's", x.time(0), 19);
        x.cycles(2);
        due("cut: A", x.time(0), 13);
        due("cut: B", x.time(1), 21);
        x.cuts(0);
        x.cycles(2);
        due("two cuts: A", x.time(0), NONE);
        due("two cuts: B", x.time(1), 21);
        RingFrames y = ring(OPEN, "wb0 7;");
        y.cycles(1);
        due("open: A", y.time(0), 27);
        due("open: B", y.time(1), NONE);
    }

    private static void reached() {
        promise = "19 reached";
        RingFrames x = ring(CLOSED, "");
        due("whole: A", x.reached(0), 15);
        due("whole: B", x.reached(1), 0);
        due("reached(2)", x.reached(2), BAD);
        for (int n : OUTSIDE) {
            due("reached(" + n + ")", x.reached(n), BAD);
        }
        x.cuts(1);
        due("cut: A", x.reached(0), 1);
        due("cut: B", x.reached(1), 14);
        x.cuts(3);
        due("two cuts: A", x.reached(0), 1);
        due("two cuts: B", x.reached(1), 8);
        x.heals(1);
        x.heals(3);
        x.cuts(0);
        due("the first: A", x.reached(0), 0);
        due("the first: B", x.reached(1), 15);
        due("the last: A", lastCut().reached(0), 15);
        due("the last: B", lastCut().reached(1), 0);
        RingFrames y = ring(OPEN, "");
        due("open: A", y.reached(0), 15);
        y.cuts(3);
        due("open and cut: A", y.reached(0), 7);
        due("open and cut: B", y.reached(1), 0);
        due("nothing is changed", y.count(8), 1);
    }

    private static void would() {
        promise = "20 would";
        RingFrames x = ring(CLOSED, "wb0 7;xs6 1 3;rp2 0 0;");
        due("would(0)", x.would(0), 4);
        due("would(1)", x.would(1), 6);
        due("would(2)", x.would(2), 1);
        due("would(3)", x.would(3), 0);
        due("would(4)", x.would(4), 19);
        due("would(5)", x.would(5), 19);
        due("would(6)", x.would(6), BAD);
        for (int n : OUTSIDE) {
            due("would(" + n + ")", x.would(n), BAD);
        }
        due("BYTES are not changed", x.drive(0, 1), 0);
        due("there is no RESULT", x.result(0, 0), NONE);
        due("there is no TIME", x.time(0), NONE);
        x.cuts(2);
        due("it is SENT, though cut just now", x.would(0), 4);
        due("cut: place", x.would(2), 0);
        due("cut: A", x.would(4), 13);
        x.cuts(4);
        due("cut: B", x.would(5), NONE);
        due("cut: COUNT", x.would(0), 2);
        due("it is not forgotten", x.count(8), 1);
        x.cycles(4);
        due("SAFE ones: w", x.would(0), 2);
        x.heals(2);
        due("SAFE ones: w", x.would(0), 2);
        due("SAFE ones: x", x.would(1), 4);
        due("without a FRAME", ring(OPEN, "").would(4), 27);
        frame(x, "wb0 7;xb1 3;");
        x.cycles(1);
        frame(x, "wb0 7;");
        due("an ORDER that was", x.would(1), 0);
    }

    private static void sees() {
        promise = "21 sees";
        RingFrames x = new RingFrames();
        due("sees(6, 0)", x.sees(6, 0), BAD);
        due("sees(0, 256)", x.sees(0, 256), BAD);
        due("sees(3, NONE)", x.sees(3, NONE), BAD);
        due("sees(4, -8)", x.sees(4, -8), BAD);
        for (int n : OUTSIDE) {
            due("sees(" + n + ", 0)", x.sees(n, 0), BAD);
            due("sees(4, " + n + ")", x.sees(4, n), BAD);
        }
        due("sees(0, 0)", x.sees(0, 0), 1);
        due("sees(0, 255)", x.sees(0, 255), 2);
        due("sees(3, 0)", x.sees(3, 0), 3);
        due("sees(4, NONE)", x.sees(4, NONE), 4);
        due("sees(5, NONE)", x.sees(5, NONE), 5);
        due("sees(5, NONE)", x.sees(5, NONE), 6);
        due("sees(5, 3)", x.sees(5, 3), FULL);
        due("sees(6, 3)", x.sees(6, 3), BAD);
        due("count(10)", x.count(10), 6);
        due("nothing to undo", x.count(12), 0);
    }

    private static void forget() {
        promise = "22 forget";
        RingFrames x = ring(CLOSED, "");
        due("forget()", x.forget(), 0);
        x.sees(4, 200);
        x.sees(4, 201);
        due("which(0)", x.which(0), 0);
        due("forget()", x.forget(), 2);
        due("forget()", x.forget(), 0);
        due("which(0)", x.which(0), 5);
        due("count(10)", x.count(10), 0);
    }

    private static void which() {
        promise = "23 which";
        RingFrames x = ring(CLOSED, "rp2 0 0;wb0 7;");
        due("nothing SEEN: how many", x.which(0), 5);
        due("nothing SEEN: the least", x.which(1), 0);
        due("nothing SEEN: SOUND", x.which(2), 1);
        due("which(3)", x.which(3), BAD);
        for (int n : OUTSIDE) {
            due("which(" + n + ")", x.which(n), BAD);
        }
        x.sees(0, 0);
        due("place 2 of none: how many", x.which(0), 1);
        due("place 2 of none: the least", x.which(1), 2);
        due("place 2 of none: SOUND", x.which(2), 0);
        x.sees(0, 1);
        due("what can't be: how many", x.which(0), 0);
        due("what can't be: the least", x.which(1), NONE);
        x.forget();
        x.sees(4, 13);
        x.sees(5, 21);
        due("by times", x.which(1), 2);
        x.cuts(2);
        due("it is CUT now: how many", x.which(0), 0);
        due("it is CUT now: SOUND", x.which(2), 1);
        x.forget();
        x.sees(1, 3);
        due("one more: how many", x.which(0), 2);
        due("one more: the least", x.which(1), 1);
        x.cycles(1);
        due("RESULT is not changed", x.result(1, 0), 0);
        x.cuts(1);
        due("asked again, as it is then", x.which(2), 1);
        x.forget();
        x.sees(3, 0);
        due("an ORDER that there is not", x.which(0), 3);
        x.sees(5, NONE);
        due("no TIME at B", x.which(0) * 10 + x.which(1), 14);
    }

    private static void ask() {
        promise = "24 ask";
        RingFrames x = ring(CLOSED, "rp2 0 0;rb0 0;");
        due("ask()", x.ask(), 4);
        due("nothing is changed", x.count(5) + x.count(8), 0);
        x.sees(4, 5);
        due("one", x.ask(), NONE);
        x.sees(4, 6);
        due("none", x.ask(), NONE);
        RingFrames y = new RingFrames();
        due("one link", y.ask(), NONE);
        wire(y, "d1 1;d1 1;");
        frame(y, "rb0 0;");
        due("of several the first", y.ask(), 0);
        y.cuts(0);
        due("one is WELL", y.ask(), NONE);
        wire(y, "d1 1;d1 1;d1 1;");
        frame(y, "rp2 0 0;rp0 0 0;rb0 0;");
        due("COUNT of ORDER 2", y.ask(), 2);
        y.cuts(0);
        due("all alike", y.ask(), 0);
        wire(y, "d1 1;d1 1;d1 1;");
        frame(y, "rp2 0 0;rb0 0;rp0 0 0;");
        due("COUNT of ORDER 1", y.ask(), 1);
        RingFrames z = ring("d1 1;d1 1;d1 1;z1;", "rp0 0 0;");
        z.cuts(1);
        z.cycles(1);
        due("beyond a cut", z.ask(), 5);
    }

    private static void keepAndBack() {
        promise = "25 keep, 26 back";
        RingFrames x = ring(CLOSED, "wb0 7;rb0 0;");
        due("back(0)", x.back(0), STATE);
        due("keep(2)", x.keep(2), BAD);
        due("back(2)", x.back(2), BAD);
        for (int n : OUTSIDE) {
            due("keep(" + n + ")", x.keep(n), BAD);
            due("back(" + n + ")", x.back(n), BAD);
        }
        x.cycles(1);
        x.drifts(1, 4);
        x.cuts(2);
        due("keep(0)", x.keep(0), 4);
        due("what may be UNDONE stays", x.count(12), 5);
        x.cycles(1);
        x.sees(4, 1);
        due("keep(1)", x.keep(1), 4);
        wire(x, "d1 1;m2;");
        x.type('d');
        due("back(0)", x.back(0), 4);
        int[] counts = {4, 5, 1, 3, 2, 1, 0, 1, 1, 4, 1, 1, 0};
        for (int what = 0; what < counts.length; what++) {
            due("count(" + what + ")", x.count(what), counts[what]);
        }
        due("undo()", x.undo(), STATE);
        due("BYTE", x.drive(3, 1), 7);
        due("RESULT", x.result(1, 1), 7);
        due("TIME", x.time(1), 19);
        due("OFFSET", x.drive(1, 7), 4);
        due("CUT", x.link(2, 1), 1);
        due("back(1)", x.back(1), 4);
        due("CYCLES", x.count(7), 2);
        due("RESULT", x.result(1, 1), 0);
        x.sets(0, 3, 50);
        due("it can be UNDONE", x.undo(), 0);
        x.sets(0, 3, 50);
        x.back(0);
        due("the IMAGE stays as it was", x.drive(0, 4), 0);
        x.sets(0, 3, 60);
        x.keep(0);
        x.sets(0, 3, 61);
        x.back(0);
        due("an IMAGE kept again", x.drive(0, 4), 60);
        due("the other one", x.back(1) * 100 + x.drive(0, 4), 400);
    }

    private static void allThatThereMayBe() {
        promise = "all that there may be";
        RingFrames x = ring(GREATEST, "rp15 3 255;ws15 3 255;xb3 255;rp5 3 255;");
        due("TIME", x.would(4), 69);
        due("how many may be CUT", x.which(0), 7);
        due("ask()", x.ask(), 4);
        due("cycles(20)", x.cycles(20), 0);
        due("COUNT of x", x.result(2, 0), 18);
        due("COUNT of p 5", x.result(3, 0), 1);
        for (int k = 6; k >= 0; k--) {
            due("cuts(" + k + ")", x.cuts(k), 7 - k);
        }
        due("how many may be CUT", x.which(0), 0);
        due("cycles(20)", x.cycles(20), 6);
        due("MISSES", x.drive(5, 5), 20);
        due("REACHED", x.reached(0) + x.reached(1), 0);
        due("heals(6)", x.heals(6), 6);
        due("REACHED", x.reached(1), 32);
        due("heals(5)", x.heals(5), 5);
        due("heals(0)", x.heals(0), 4);
        due("REACHED", x.reached(1), 48);
        due("measures()", x.measures(), 3);
    }

    private static void count() {
        promise = "27 count";
        RingFrames x = ring("d1 1;d1 2;z1;m2;", "rs1 0 0;");
        x.drifts(0, -3);
        x.drifts(1, 5);
        x.cycles(2);
        x.cuts(1);
        x.sees(0, 0);
        x.type('d');
        x.type('1');
        int[] counts = {2, 3, 1, 2, 1, 1, 1, 2, 1, 8, 1, 2, 6};
        for (int what = 0; what < counts.length; what++) {
            due("count(" + what + ")", x.count(what), counts[what]);
        }
        due("count(13)", x.count(13), BAD);
        for (int n : OUTSIDE) {
            due("count(" + n + ")", x.count(n), BAD);
        }
    }
}
