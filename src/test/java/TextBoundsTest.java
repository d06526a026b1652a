/** THE TEXT at its bounds: each sentence of the document that bounds a letter, a TOKEN, an ITEM or the whole. */
public final class TextBoundsTest extends Check {
    private static final int MOST_LETTERS = 120;
    private static final String BIG_FRAME = "rp15 3 255;ws15 3 255;xb3 255;rb0 0;";

    public static void main(String[] args) {
        lettersFromLeastToGreatest();
        atMost120Letters();
        theFaultsOfAFullText();
        blanksOfAnyNumber();
        noOtherLetterIsABlank();
        blanksBetweenTwoNumbers();
        oneToSixDrives();
        lengthsFromLeastToGreatest();
        stationsFromLeastToGreatest();
        limitsFromLeastToGreatest();
        closedOnceAtMost();
        limitOnceAtMost();
        oneToFourOrders();
        numbersOfAnOrder();
        noNumberOfAnOrderForAll();
        numbersBeyondAnyBound();
        zerosAhead();
        everyLetterOfAWire();
        everyLetterOfAFrame();
        aTextThatEndsTooEarly();
        theFirstOfSeveralFaults();
        theTextIsEmptyThen();
        aFaultChangesNothing();
        exitIfWrong();
    }

    // ---- what is read, and where it can't be

    /** How a text is told: as a wire or as a frame. */
    private enum Kind {
        WIRE, FRAME;

        void reads(String text, int want) {
            if (this == WIRE) {
                due("wires() of '" + text + "'", wire(new RingFrames(), text), want);
            } else {
                due("frames() of '" + text + "'", frame(new RingFrames(), text), want);
            }
        }
    }

    private static void wireReads(String text, int drives) {
        Kind.WIRE.reads(text, drives);
    }

    private static void wireFault(String text, int fault) {
        Kind.WIRE.reads(text, -10 - fault);
    }

    private static void frameReads(String text, int orders) {
        Kind.FRAME.reads(text, orders);
    }

    private static void frameFault(String text, int fault) {
        Kind.FRAME.reads(text, -10 - fault);
    }

    // ---- letters

    private static void lettersFromLeastToGreatest() {
        promise = "2 type: a letter (0 .. 255)";
        RingFrames x = new RingFrames();
        due("type(-1)", x.type(-1), BAD);
        due("type(0)", x.type(0), 1);
        due("type(255)", x.type(255), 2);
        due("type(256)", x.type(256), BAD);
        due("a letter and 256", x.type('d' + 256), BAD);
        due("a letter less 256", x.type('d' - 256), BAD);
        due("a letter and 65536", x.type('d' + 65536), BAD);
        due("letters", x.count(11), 2);
        x.clear();
        for (int letter = 0; letter <= 119; letter++) {
            due("type(" + letter + ")", x.type(letter), letter + 1);
        }
        x.clear();
        for (int letter = 136; letter <= 255; letter++) {
            due("type(" + letter + ")", x.type(letter), letter - 135);
        }
    }

    private static void atMost120Letters() {
        promise = "2 type: FULL: 120";
        RingFrames x = new RingFrames();
        typeAll(x, " ".repeat(MOST_LETTERS - 1));
        due("the 120th", x.type(' '), 120);
        due("the 121st", x.type(' '), FULL);
        due("the 121st again", x.type(0), FULL);
        due("BAD is ahead of FULL", x.type(256), BAD);
        due("BAD is ahead of FULL", x.type(-1), BAD);
        due("letters", x.count(11), 120);
        due("clear()", x.clear(), 120);
        due("the first again", x.type(' '), 1);
    }

    private static void theFaultsOfAFullText() {
        promise = "4, 5: texts of 120 letters";
        wireReads(" ".repeat(115) + "d1 1;", 1);
        wireReads("d1 1;" + " ".repeat(115), 1);
        wireReads("d" + " ".repeat(58) + "1" + " ".repeat(58) + "1;", 1);
        wireFault(" ".repeat(119) + "q", 119);
        wireFault(" ".repeat(119) + "d", 120);
        wireFault(" ".repeat(120), 120);
        wireFault(" ".repeat(116) + "d1 1", 120);
        frameReads(" ".repeat(114) + "rb0 0;", 1);
        frameFault(" ".repeat(119) + "q", 119);
        frameFault(" ".repeat(120), 120);
        RingFrames x = new RingFrames();
        typeAll(x, " ".repeat(116) + "d1 1");
        due("a ; that comes too late", x.type(';'), FULL);
        due("it is not of the text", x.wires(), -130);
    }

    // ---- blanks

    private static void blanksOfAnyNumber() {
        promise = "THE TEXT: blanks, any number, ahead of, between, behind TOKENS";
        wireReads("d1 1;z1;m1;", 1);
        wireReads("   d   1   1   ;   z   1   ;   m   1   ;   ", 1);
        frameReads("rp1 1 1;wb1 1;", 2);
        frameReads("   r   p   1   1   1   ;   w   b   1   1   ;   ", 2);
    }

    private static void noOtherLetterIsABlank() {
        promise = "THE TEXT: a blank is 32";
        for (int letter : new int[] {0, 9, 10, 13, 31, 33, 95, 160, 255}) {
            wireFault("d1" + (char) letter + "1;", 2);
            wireFault((char) letter + "d1 1;", 0);
            wireFault("d1 1;" + (char) letter, 5);
            frameFault("rb0" + (char) letter + "0;", 3);
        }
    }

    private static void blanksBetweenTwoNumbers() {
        promise = "THE TEXT: blanks are needed only between two NUMBERS";
        wireFault("d11;", 1);
        wireFault("d9;", 2);
        wireReads("d9 1;", 1);
        wireReads("d1 15;", 1);
        wireFault("d1 1 5;", 5);
        frameFault("wb11;", 2);
        frameFault("wb1;", 3);
        frameReads("wb1 1;", 1);
        frameFault("wp15 15;", 5);
        frameFault("wp1 3;", 5);
        frameReads("wp1 3 5;", 1);
        frameFault("wb1 2 5;", 6);
    }

    // ---- a wire

    private static void oneToSixDrives() {
        promise = "DRIVES (1 to 6)";
        wireFault("", 0);
        wireFault("m1;", 3);
        wireReads("d1 1;", 1);
        wireReads("d1 1;".repeat(6), 6);
        wireReads("d1 1;".repeat(6) + "z1;m1;", 6);
        wireFault("d1 1;".repeat(6) + "d", 30);
        wireFault("d1 1;".repeat(7), 30);
        wireFault("d1 1;".repeat(6) + "  d1 1;", 32);
        wireFault("d1 1;".repeat(6) + "m1;d1 1;", 33);
    }

    private static void lengthsFromLeastToGreatest() {
        promise = "LENGTH (1 to 9)";
        wireFault("d0 1;", 1);
        wireReads("d1 1;", 1);
        wireReads("d9 1;", 1);
        wireFault("d10 1;", 1);
        wireFault("d1 1;z0;", 6);
        wireReads("d1 1;z1;", 1);
        wireReads("d1 1;z9;", 1);
        wireFault("d1 1;z10;", 6);
        for (int length = 1; length <= 9; length++) {
            RingFrames x = ring("d" + length + " 1;z" + (10 - length) + ";", "");
            due("LENGTH of the first", x.link(0, 0), length);
            due("LENGTH of the last", x.link(1, 0), 10 - length);
        }
    }

    private static void stationsFromLeastToGreatest() {
        promise = "STATION (0 to 15)";
        for (int station = 0; station <= 15; station++) {
            due("STATION", ring("d1 " + station + ";", "").drive(0, 0), station);
        }
        wireFault("d1 16;", 3);
        wireFault("d1 255;", 3);
    }

    private static void limitsFromLeastToGreatest() {
        promise = "LIMIT (1 to 9)";
        wireFault("d1 1;m0;", 6);
        for (int limit = 1; limit <= 9; limit++) {
            due("LIMIT", ring("d1 1;m" + limit + ";", "").count(3), limit);
        }
        wireFault("d1 1;m10;", 6);
        RingFrames x = ring("d1 1;m9;", "");
        wire(x, "d1 1;");
        due("LIMIT is 3, if it is not told", x.count(3), 3);
    }

    private static void closedOnceAtMost() {
        promise = "z: once at most, behind a d, no d behind it";
        wireFault("z1;d1 1;", 0);
        wireFault("m1;z1;d1 1;", 3);
        wireReads("d1 1;z1;", 1);
        wireFault("d1 1;z1;z1;", 8);
        wireFault("d1 1;z1;m1;z1;", 11);
        wireFault("d1 1;z1;d1 1;", 8);
        wireFault("d1 1;z1;m1;d1 1;", 11);
        due("CLOSED", ring("d1 1;z1;", "").count(2), 1);
        due("LINKS of a ring that is CLOSED", ring("d1 1;z1;", "").count(1), 2);
        due("not CLOSED", ring("d1 1;", "").count(2), 0);
        due("LINKS of one that is not", ring("d1 1;", "").count(1), 1);
    }

    private static void limitOnceAtMost() {
        promise = "m: once at most";
        wireReads("m1;d1 1;", 1);
        wireReads("d1 1;m1;d1 1;", 2);
        wireReads("d1 1;z1;m1;", 1);
        wireFault("m1;m1;d1 1;", 3);
        wireFault("m1;d1 1;z1;m1;", 11);
        wireFault("d1 1;m3;m3;", 8);
    }

    // ---- a frame

    private static void oneToFourOrders() {
        promise = "ORDERS (1 to 4)";
        frameFault("", 0);
        frameFault(" ", 1);
        frameReads("rb0 0;", 1);
        frameReads("rb0 0;".repeat(4), 4);
        frameFault("rb0 0;".repeat(4) + "r", 24);
        frameFault("rb0 0;".repeat(5), 24);
        frameFault("rb0 0;".repeat(4) + "  xb0 0;", 26);
    }

    private static void numbersOfAnOrder() {
        promise = "p N, s N (0 to 15), BYTE (0 to 3), V (0 to 255)";
        for (String aim : new String[] {"p", "s"}) {
            for (int n = 0; n <= 15; n++) {
                due(aim + " N", ring("d1 1;", "r" + aim + n + " 0 0;").order(0, 2), n);
            }
            frameFault("r" + aim + "16 0 0;", 2);
            frameFault("r" + aim + "15 4 0;", 5);
            frameReads("r" + aim + "15 3 255;", 1);
            frameFault("r" + aim + "15 3 256;", 7);
        }
        for (int at = 0; at <= 3; at++) {
            due("BYTE", ring("d1 1;", "rb" + at + " 0;").order(0, 3), at);
        }
        frameFault("rb4 0;", 2);
        for (int v = 0; v <= 255; v++) {
            due("V", ring("d1 1;", "rb0 " + v + ";").order(0, 4), v);
        }
        frameFault("rb0 256;", 4);
    }

    private static void noNumberOfAnOrderForAll() {
        promise = "b has no N";
        frameReads("rb3 255;", 1);
        frameFault("rb3 3 255;", 6);
        frameFault("rp3 255;", 4);
        due("N of b", ring("d1 1;", "rb3 255;").order(0, 2), NONE);
    }

    // ---- numbers

    private static void numbersBeyondAnyBound() {
        promise = "FAULT: a NUMBER above 255";
        String[] rows = {"256", "257", "511", "512", "1000", "2147483647", "2147483648", "4294967296", "4294967297",
            "4294967305", "18446744073709551617", "1".repeat(110)};
        for (String row : rows) {
            wireFault("d" + row + " 1;", 1);
            wireFault("d1 " + row + ";", 3);
            frameFault("rb0 " + row + ";", 4);
            frameFault("rs" + row + " 0 0;", 2);
        }
        wireFault(" 256", 1);
        wireFault("d1 1;256", 5);
    }

    private static void zerosAhead() {
        promise = "FAULT: a NUMBER with a 0 ahead of others";
        wireReads("d1 0;", 1);
        wireReads("d1 10;", 1);
        wireFault("d1 00;", 3);
        wireFault("d1 01;", 3);
        wireFault("d01 1;", 1);
        wireFault("d1 1;m03;", 6);
        wireFault("d1 1;z01;", 6);
        frameReads("rp0 0 0;", 1);
        frameFault("rp00 0 0;", 2);
        frameFault("rp0 00 0;", 4);
        frameFault("rp0 0 00;", 6);
        frameFault("rp0 0 010;", 6);
        frameReads("rp10 0 100;", 1);
    }

    // ---- every letter, at every place that a TOKEN can have

    /** Behind the text (which ends in a blank or a letter) these letters and blanks can stand; no other can. */
    private static void canStand(Kind kind, String text, String letters) {
        for (int c = 0; c <= 255; c++) {
            boolean can = c == ' ' || letters.indexOf(c) >= 0;
            kind.reads(text + (char) c, -10 - text.length() - (can ? 1 : 0));
        }
    }

    /** Behind the text only blanks and ; can stand, and with ; it can be read. */
    private static void ends(Kind kind, String text) {
        for (int c = 0; c <= 255; c++) {
            kind.reads(text + (char) c, c == ';' ? 1 : -10 - text.length() - (c == ' ' ? 1 : 0));
        }
    }

    /** The text can be read; an item more can begin with these letters alone. */
    private static void canBegin(Kind kind, String text, String letters, int answer) {
        for (int c = 0; c <= 255; c++) {
            boolean can = letters.indexOf(c) >= 0;
            kind.reads(text + (char) c, c == ' ' ? answer : -10 - text.length() - (can ? 1 : 0));
        }
    }

    private static void everyLetterOfAWire() {
        promise = "FAULT of every letter of a WIRE";
        canStand(Kind.WIRE, "", "dm");
        canStand(Kind.WIRE, "m", "123456789");
        canStand(Kind.WIRE, "m1 ", ";");
        canStand(Kind.WIRE, "m1;", "d");
        canStand(Kind.WIRE, "d", "123456789");
        canStand(Kind.WIRE, "d1 ", "0123456789");
        ends(Kind.WIRE, "d1 1 ");
        canStand(Kind.WIRE, "d1 1;z", "123456789");
        ends(Kind.WIRE, "d1 1;z1 ");
        ends(Kind.WIRE, "d1 1;m1 ");
        canBegin(Kind.WIRE, "d1 1;", "dzm", 1);
        canBegin(Kind.WIRE, "d1 1;m1;", "dz", 1);
        canBegin(Kind.WIRE, "d1 1;z1;", "m", 1);
        canBegin(Kind.WIRE, "d1 1;z1;m1;", "", 1);
        canBegin(Kind.WIRE, "d1 1;".repeat(6), "zm", 6);
    }

    private static void everyLetterOfAFrame() {
        promise = "FAULT of every letter of a FRAME";
        canStand(Kind.FRAME, "", "rwx");
        for (String op : new String[] {"r", "w", "x"}) {
            canStand(Kind.FRAME, op, "psb");
            canStand(Kind.FRAME, op + "p", "0123456789");
            canStand(Kind.FRAME, op + "s", "0123456789");
            canStand(Kind.FRAME, op + "b", "0123");
            canStand(Kind.FRAME, op + "p1 ", "0123");
            canStand(Kind.FRAME, op + "p1 1 ", "0123456789");
            canStand(Kind.FRAME, op + "b1 ", "0123456789");
            ends(Kind.FRAME, op + "b1 1 ");
            ends(Kind.FRAME, op + "s1 1 1 ");
        }
        canBegin(Kind.FRAME, "rb0 0;", "rwx", 1);
        canBegin(Kind.FRAME, "rb0 0;".repeat(3), "rwx", 3);
        canBegin(Kind.FRAME, "rb0 0;".repeat(4), "", 4);
    }

    // ---- the end, the first fault, and what stays

    private static void aTextThatEndsTooEarly() {
        promise = "FAULT: the text's length, if it ends too early";
        for (int n = 0; n < GREATEST.length(); n++) {
            String begun = GREATEST.substring(0, n);
            boolean whole = begun.endsWith(";");
            wireReads(begun, whole ? Math.min(n / 6, 6) : -10 - n);
            wireReads(begun + "  ", whole ? Math.min(n / 6, 6) : -12 - n);
        }
        int orders = 0;
        for (int n = 0; n < BIG_FRAME.length(); n++) {
            String begun = BIG_FRAME.substring(0, n);
            boolean whole = begun.endsWith(";");
            orders += whole ? 1 : 0;
            frameReads(begun, whole ? orders : -10 - n);
            frameReads(begun + "  ", whole ? orders : -12 - n);
        }
    }

    private static void theFirstOfSeveralFaults() {
        promise = "FAULT: the first TOKEN";
        wireFault("d1 16;d0 1;q", 3);
        wireFault("d1 1;q d1 16;", 5);
        wireFault("d1 1;;256", 5);
        wireFault("d1 256 q", 3);
        wireFault("z1;q", 0);
        frameFault("rb4 256;q", 2);
        frameFault("rb0 0;;q", 6);
        frameFault("q rb4 0;", 0);
        frameFault("d1 1;rb4 0;", 0);
    }

    private static void theTextIsEmptyThen() {
        promise = "4, 5: THE TEXT is empty then";
        RingFrames x = new RingFrames();
        due("wires()", wire(x, "d1 1;"), 1);
        due("letters", x.count(11), 0);
        due("wires() of no letter", x.wires(), -10);
        due("frames()", frame(x, "rb0 0;"), 1);
        due("letters", x.count(11), 0);
        due("frames() of no letter", x.frames(), -10);
        due("the next letter is the first", x.type('d'), 1);
        due("clear()", x.clear(), 1);
        due("clear() of no letter", x.clear(), 0);
    }

    private static RingFrames withText(String text) {
        RingFrames x = ring(CLOSED, "rb0 0;ws5 1 1;");
        x.cuts(1);
        x.cycles(2);
        x.drifts(0, 4);
        x.keep(1);
        x.sees(4, 5);
        typeAll(x, text);
        return x;
    }

    private static void aFaultChangesNothing() {
        promise = "4, 5: -10 less FAULT: nothing changes";
        for (String text : new String[] {"", " ", "d1 1;d1 1;q", "d1 1;z1;d", "m5;", "d3 3;m7;m7;", "rb0 0;"}) {
            changesNothing("wires() of '" + text + "'", () -> withText(text), RingFrames::wires);
        }
        for (String text : new String[] {"", " ", "rb1 1;rb1 1;q", "wp1 1 1;xs1 1 1", "rb0 0;".repeat(5), "d1 1;"}) {
            changesNothing("frames() of '" + text + "'", () -> withText(text), RingFrames::frames);
        }
    }
}
