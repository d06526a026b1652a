/**
 * Each sentence of the document that names a bound, but those of THE TEXT and of refused calls: the least and the
 * greatest that may be, nothing there yet, full, the oldest that gives way.
 */
public final class BoundsTest extends Check {
    public static void main(String[] args) {
        asAtFirst();
        drivesFromLeastToGreatest();
        linksFromLeastToGreatest();
        bytesFromLeastToGreatest();
        bytesOfOrders();
        placesFromFirstToLast();
        placesOfCopyB();
        stationsOfNoneAndOfAll();
        countsFromLeastToGreatest();
        aCutAtEitherEnd();
        aDriveBetweenTwoCuts();
        aRingOfOneDrive();
        timesFromLeastToGreatest();
        aCutSinceTheCycleAhead();
        aCutSinceTheBeginning();
        missesUpToTheLimit();
        missesBeyondTheLimit();
        missesBeyondABytesWorth();
        cyclesFromLeastToGreatest();
        offsetsFromLeastToGreatest();
        spreadFromLeastToGreatest();
        measuredOfNoneAndOfAll();
        answersBelowZeroThatAreNoRefusals();
        sixAreKnown();
        theOldestIsLost();
        undoneAndDoneAgain();
        eachKindCanBeUndone();
        whatIsRefusedIsNotKnown();
        seenFromNoneToSix();
        seenFromLeastToGreatest();
        seenIsNeitherUndoneNorKept();
        whichOfNoneAndOfAll();
        anOrderThatThereIsNot();
        timesWithoutAFrame();
        askOfNoneOneAndTwo();
        askOfSeveralTheFirst();
        askOfNumbersThatDifferByOne();
        imagesZeroAndOne();
        imagesKeepNothingElse();
        resultsOfNoCycle();
        allThatIsCounted();
        the512thCall();
        exitIfWrong();
    }

    // ---- 1: drives, links, bytes

    private static void asAtFirst() {
        promise = "1: as at first";
        alike("a wire told and UNDONE", RingFrames::new, () -> {
            RingFrames x = ring("d9 15;z9;m9;", "");
            x.undo();
            return x;
        });
        RingFrames told = ring("d1 0;", "");
        due("DRIVES", told.count(0), 1);
        String difference = View.ringDifference(new RingFrames(), told);
        due("as a wire told: " + difference, difference.length(), 0);
    }

    private static void drivesFromLeastToGreatest() {
        promise = "DRIVES 0, 1, .. (1 to 6)";
        for (int n = 1; n <= 6; n++) {
            RingFrames x = ring("d1 1;".repeat(n), "");
            due("DRIVES", x.count(0), n);
            due("the first", x.drive(0, 0), 1);
            due("the last", x.drive(n - 1, 0), 1);
            due("one beyond", x.drive(n, 0), NO);
            due("resets of the last", x.resets(n - 1), STATE);
            due("resets beyond", x.resets(n), BAD);
            due("sets of the last", x.sets(n - 1, 0, 1), 0);
            due("sets beyond", x.sets(n, 0, 1), BAD);
            due("drifts of the last", x.drifts(n - 1, 1), 1);
            due("drifts beyond", x.drifts(n, 1), BAD);
        }
    }

    private static void linksFromLeastToGreatest() {
        promise = "LINKS: as many as DRIVES, one more if CLOSED";
        for (int n = 1; n <= 6; n++) {
            linksOf(ring("d1 1;".repeat(n), ""), n);
            linksOf(ring("d1 1;".repeat(n) + "z1;", ""), n + 1);
        }
    }

    private static void linksOf(RingFrames x, int links) {
        due("LINKS", x.count(1), links);
        due("link of the last", x.link(links - 1, 0), 1);
        due("link beyond", x.link(links, 0), BAD);
        due("heals of the last", x.heals(links - 1), STATE);
        due("heals beyond", x.heals(links), BAD);
        due("cuts beyond", x.cuts(links), BAD);
        for (int k = 0; k < links; k++) {
            due("cuts(" + k + ")", x.cuts(k), k + 1);
        }
        due("all are CUT", x.count(5), links);
        for (int k = 0; k < links; k++) {
            due("heals(" + k + ")", x.heals(k), links - 1 - k);
        }
        due("none is CUT", x.count(5), 0);
    }

    private static void bytesFromLeastToGreatest() {
        promise = "10 sets: BYTES 0 to 3, each 0 to 255; 0 at first";
        RingFrames x = ring(GREATEST, "");
        for (int at = 0; at <= 3; at++) {
            due("0 at first", x.drive(5, 1 + at), 0);
            due("0 to 1", x.sets(5, at, 1), 0);
            due("1 to 255", x.sets(5, at, 255), 1);
            due("255 to 254", x.sets(5, at, 254), 255);
            due("254 to 0", x.sets(5, at, 0), 254);
            due("0 to 0", x.sets(5, at, 0), STATE);
            due("0 to 100 and at", x.sets(5, at, 100 + at), 0);
            due("-1", x.sets(5, at, -1), BAD);
            due("256", x.sets(5, at, 256), BAD);
        }
        for (int at = 0; at <= 3; at++) {
            due("each has its own", x.drive(5, 1 + at), 100 + at);
            due("another drive's", x.drive(4, 1 + at), 0);
        }
        due("BYTE -1", x.sets(5, -1, 1), BAD);
        due("BYTE 4", x.sets(5, 4, 1), BAD);
        due("STATION stays", x.drive(5, 0), 15);
        due("MISSES stay", x.drive(5, 5), 0);
    }

    private static void bytesOfOrders() {
        promise = "ORDERS of BYTES 0 and 3, DATA 0 and 255";
        RingFrames x = ring("d1 1;d1 1;", "wb0 255;wb3 255;");
        x.cycles(1);
        due("BYTE 0", x.drive(1, 1), 255);
        due("BYTE 1", x.drive(1, 2), 0);
        due("BYTE 2", x.drive(1, 3), 0);
        due("BYTE 3", x.drive(1, 4), 255);
        frame(x, "xb3 0;rb3 128;rb0 0;wb0 0;");
        x.cycles(1);
        due("x: DATA of the last", x.result(0, 1), 255);
        due("x: BYTE 3", x.drive(0, 4) * 1000 + x.drive(1, 4), 255);
        due("r b: all bits", x.result(1, 1), 255);
        due("r ahead of w", x.result(2, 1), 255);
        due("w 0", x.drive(0, 1) + x.drive(1, 1), 0);
        due("MISSES", x.drive(1, 5), 0);
    }

    // ---- 2: for whom an order is

    private static void placesFromFirstToLast() {
        promise = "p: PLACE 0 is the first, the number of DRIVES is none";
        for (int place = 0; place <= 15; place++) {
            RingFrames x = ring("d1 1;".repeat(6), "wp" + place + " 0 9;");
            due("COUNT", x.would(0), place < 6 ? 1 : 0);
            x.cycles(1);
            for (int d = 0; d < 6; d++) {
                due("BYTE of " + d, x.drive(d, 1), d == place ? 9 : 0);
                due("MISSES of " + d, x.drive(d, 5), d == place ? 0 : 1);
            }
            due("DATA", x.result(0, 1), 9);
        }
    }

    private static void placesOfCopyB() {
        promise = "p: a COPY's PLACE is N at first";
        for (int cut = 0; cut <= 6; cut++) {
            for (int place = 0; place <= 6; place++) {
                RingFrames x = ring("d1 1;".repeat(6) + "z1;", "wp" + place + " 0 9;");
                x.cuts(cut);
                x.cycles(2);
                int ofA = place < cut ? 1 : 0;
                int ofB = place < 6 - cut ? 1 : 0;
                due("COUNT of place " + place + ", cut " + cut, x.result(0, 0), ofA + ofB);
                for (int d = 0; d < 6; d++) {
                    boolean written = d < cut ? d == place : d - cut == place;
                    due("BYTE of " + d + ", place " + place + ", cut " + cut, x.drive(d, 1), written ? 9 : 0);
                }
            }
        }
    }

    private static void stationsOfNoneAndOfAll() {
        promise = "s: for none, for one, for all";
        RingFrames x = ring("d1 0;d1 15;d1 0;d1 14;", "rs0 0 1;rs15 0 1;rs1 0 1;rs14 0 1;");
        due("STATION 0", x.would(0), 2);
        due("STATION 15", x.would(1), 1);
        due("STATION 1", x.would(2), 0);
        due("STATION 14", x.would(3), 1);
        due("all", ring(GREATEST, "rs15 0 1;").would(0), 6);
        x.cycles(1);
        due("DATA of r for none", x.result(2, 1), 1);
        due("DATA of r for one", x.result(1, 1), 0);
    }

    private static void countsFromLeastToGreatest() {
        promise = "COUNT";
        RingFrames x = ring(GREATEST, "xb0 1;wb1 1;rb2 1;xp6 3 1;");
        due("x for all", x.would(0), 18);
        due("w for all", x.would(1), 6);
        due("r for all", x.would(2), 6);
        due("x for none", x.would(3), 0);
        RingFrames safe = ring("d1 1;".repeat(6) + "m1;", "rs2 0 0;");
        safe.cycles(1);
        frame(safe, "xb0 1;wb1 1;rb2 1;");
        due("all SAFE", safe.count(6), 6);
        due("x for all that are SAFE", safe.would(0), 6);
        due("w for all that are SAFE", safe.would(1), 0);
        due("r for all that are SAFE", safe.would(2), 6);
        safe.resets(3);
        due("x for one that is not", safe.would(0), 8);
        due("w for one that is not", safe.would(1), 1);
    }

    // ---- 2: cuts and times

    private static void aCutAtEitherEnd() {
        promise = "LINK 0, the last LINK being CUT: to nothing";
        RingFrames x = ring(CLOSED, "wb0 7;");
        x.cuts(0);
        x.cycles(2);
        due("LINK 0: A", x.time(0), NONE);
        due("LINK 0: REACHED by A", x.reached(0), 0);
        due("LINK 0: REACHED by B", x.reached(1), 15);
        due("LINK 0: COUNT", x.result(0, 0), 4);
        due("LINK 0: B", x.time(1), 2 * (3 + 1 + 4 + 5) + 7);
        x.heals(0);
        x.cuts(4);
        x.cycles(2);
        due("the last: A", x.time(0), 2 * (2 + 3 + 1 + 4) + 7);
        due("the last: B", x.time(1), NONE);
        due("the last: REACHED by A", x.reached(0), 15);
        due("the last: REACHED by B", x.reached(1), 0);
        x.cuts(0);
        x.cycles(2);
        due("both: A", x.time(0), NONE);
        due("both: B", x.time(1), NONE);
        due("both: COUNT", x.result(0, 0), 0);
        due("both: DATA", x.result(0, 1), 7);
        RingFrames y = ring(OPEN, "wb0 7;");
        y.cuts(0);
        y.cycles(2);
        due("open, LINK 0: A", y.time(0), NONE);
        due("open, LINK 0: COUNT", y.result(0, 0), 0);
    }

    private static void aDriveBetweenTwoCuts() {
        promise = "a DRIVE between two LINKS that are CUT";
        RingFrames x = ring("d1 1;d1 2;d1 3;z1;", "wb0 7;");
        x.cuts(1);
        x.cuts(2);
        due("REACHED by A", x.reached(0), 1);
        due("REACHED by B", x.reached(1), 4);
        x.cycles(1);
        x.cycles(1);
        due("MISSES of it", x.drive(1, 5), 2);
        due("MISSES of the others", x.drive(0, 5) + x.drive(2, 5), 0);
        due("it is SAFE alone", x.cycles(1), 1);
        due("SAFE", x.drive(1, 6), 1);
        due("MEASURED", x.measures(), 2);
    }

    private static void aRingOfOneDrive() {
        promise = "a ring of one DRIVE";
        RingFrames x = ring("d2 1;z3;", "rb0 0;");
        due("whole: A", x.would(4), 6);
        due("whole: B", x.would(5), 6);
        due("whole: REACHED", x.reached(0) * 10 + x.reached(1), 10);
        x.cuts(0);
        due("LINK 0: A", x.would(4), NONE);
        due("LINK 0: B", x.would(5), 7);
        due("LINK 0: REACHED", x.reached(0) * 10 + x.reached(1), 1);
        x.cuts(1);
        due("both: A", x.would(4), NONE);
        due("both: B", x.would(5), NONE);
        due("both: REACHED", x.reached(0) * 10 + x.reached(1), 0);
        x.heals(0);
        due("LINK 1: A", x.would(4), 5);
        due("LINK 1: B", x.would(5), NONE);
        due("LINK 1: REACHED", x.reached(0) * 10 + x.reached(1), 10);
    }

    private static void timesFromLeastToGreatest() {
        promise = "TIME";
        due("the least", new RingFrames().would(4), 3);
        due("none at PORT B, if not CLOSED", new RingFrames().would(5), NONE);
        due("the least of a whole ring", ring("d1 1;z1;", "").would(4), 3);
        due("the greatest of a whole ring", ring(GREATEST, "").would(5), 69);
        due("the greatest of an open one", ring("d9 1;".repeat(6), "").would(4), 119);
        for (int cut = 0; cut <= 6; cut++) {
            RingFrames x = ring(GREATEST, "");
            x.cuts(cut);
            due("A, cut " + cut, x.would(4), cut == 0 ? NONE : 20 * cut - 1);
            due("B, cut " + cut, x.would(5), cut == 6 ? NONE : 20 * (6 - cut) - 1);
            due("REACHED by A, cut " + cut, x.reached(0), (1 << cut) - 1);
            due("REACHED by B, cut " + cut, x.reached(1), 63 - ((1 << cut) - 1));
        }
        due("REACHED by A, whole", ring(GREATEST, "").reached(0), 63);
    }

    // ---- 2: cycles

    private static void aCutSinceTheCycleAhead() {
        promise = "a LINK CUT since the CYCLE ahead: nothing is SENT, once";
        RingFrames x = ring(CLOSED, "rb0 0;");
        x.cycles(1);
        due("no cut", x.count(8), 0);
        x.cuts(2);
        due("a cut", x.count(8), 1);
        x.cycles(1);
        due("COUNT of the CYCLE behind it", x.result(0, 0), 0);
        due("only once", x.count(8), 0);
        x.cycles(1);
        due("COUNT of the next", x.result(0, 0), 4);
        due("cuts(2) refused", x.cuts(2), STATE);
        due("no new cut", x.count(8), 0);
        x.heals(2);
        due("a LINK healed is no cut", x.count(8), 0);
        x.cuts(2);
        x.heals(2);
        due("cut and healed", x.count(8), 1);
        x.cycles(2);
        due("the second CYCLE of one call", x.result(0, 0), 4);
        due("MISSES", x.drive(0, 5), 0);
        x.cuts(1);
        x.undo();
        due("a cut that is UNDONE", x.count(8), 0);
    }

    private static void aCutSinceTheBeginning() {
        promise = "a LINK CUT since the beginning";
        RingFrames x = new RingFrames();
        due("at first", x.count(8), 0);
        x.cuts(0);
        due("a cut", x.count(8), 1);
        frame(x, "rb0 0;");
        due("a FRAME told", x.count(8), 1);
        wire(x, "d1 1;");
        due("a WIRE told: none was CUT", x.count(8) + x.count(5), 0);
        x.cuts(0);
        x.keep(0);
        x.undo();
        due("UNDONE", x.count(8), 0);
        x.back(0);
        due("an IMAGE has it", x.count(8), 1);
    }

    private static void missesUpToTheLimit() {
        promise = "LIMIT MISSES and not one less: SAFE";
        for (int limit = 1; limit <= 9; limit++) {
            RingFrames x = ring("d1 1;d1 2;m" + limit + ";", "rs1 0 0;");
            x.sets(1, 0, 8);
            x.sets(1, 3, 9);
            for (int n = 1; n < limit; n++) {
                due("SAFE behind " + n + " of " + limit, x.cycles(1), 0);
                due("MISSES behind " + n, x.drive(1, 5), n);
            }
            due("BYTES ahead of it", x.drive(1, 1) * 10 + x.drive(1, 4), 89);
            due("SAFE behind " + limit, x.cycles(1), 1);
            due("BYTES then", x.drive(1, 1) * 10 + x.drive(1, 4), 0);
            due("MISSES then", x.drive(1, 5), limit);
        }
        RingFrames usual = ring("d1 1;", "rs2 0 0;");
        due("LIMIT not told: two", usual.cycles(2), 0);
        due("LIMIT not told: three", usual.cycles(1), 1);
        RingFrames again = ring("d1 1;m2;", "rs2 0 0;");
        again.cycles(1);
        frame(again, "rs1 0 0;");
        again.cycles(1);
        due("none more: 0", again.drive(0, 5), 0);
        frame(again, "rs2 0 0;");
        due("they count from 0 again", again.cycles(1), 0);
        due("up to LIMIT", again.cycles(1), 1);
    }

    private static void missesBeyondTheLimit() {
        promise = "MISSES of one that is SAFE, and RESET";
        RingFrames x = ring("d1 1;m2;", "rs2 0 0;");
        x.cycles(3);
        due("MISSES go on", x.drive(0, 5), 3);
        due("resets", x.resets(0), 3);
        due("not SAFE", x.count(6), 0);
        due("resets again", x.resets(0), STATE);
        due("one less than LIMIT", x.cycles(1), 0);
        due("resets of one that is not SAFE", x.resets(0), 1);
        due("LIMIT is counted from 0", x.cycles(1), 0);
        due("LIMIT", x.cycles(1), 1);
        frame(x, "wb0 5;");
        x.cycles(1);
        due("w for it: no MISS", x.drive(0, 5), 0);
        due("it stays SAFE", x.drive(0, 6), 1);
        due("resets of one that is SAFE and has no MISS", x.resets(0), 0);
        due("not SAFE", x.drive(0, 6), 0);
    }

    private static void missesBeyondABytesWorth() {
        promise = "MISSES and CYCLES have no bound";
        RingFrames x = ring("d1 1;", "rs2 0 0;");
        for (int n = 0; n < 400; n++) {
            x.cycles(20);
        }
        due("MISSES", x.drive(0, 5), 8000);
        due("CYCLES", x.count(7), 8000);
        due("resets", x.resets(0), 8000);
    }

    private static void cyclesFromLeastToGreatest() {
        promise = "8 cycles: n (1 .. 20)";
        RingFrames x = ring(CLOSED, "xs6 0 3;");
        due("0", x.cycles(0), BAD);
        due("1", x.cycles(1), 0);
        due("CYCLES", x.count(7), 1);
        due("20", x.cycles(20), 2);
        due("CYCLES", x.count(7), 21);
        due("21", x.cycles(21), BAD);
        due("CYCLES", x.count(7), 21);
        for (int n = 2; n <= 20; n++) {
            RingFrames atOnce = cutRing();
            atOnce.cycles(n);
            RingFrames oneByOne = cutRing();
            for (int i = 0; i < n; i++) {
                oneByOne.cycles(1);
            }
            String difference = View.ringDifference(atOnce, oneByOne);
            due(n + " at once: " + difference, difference.length(), 0);
        }
    }

    private static RingFrames cutRing() {
        RingFrames x = ring(CLOSED, "xs6 0 3;xp1 0 4;rb0 0;");
        x.cuts(2);
        return x;
    }

    // ---- 2 and 3: clocks

    private static void offsetsFromLeastToGreatest() {
        promise = "OFFSET (-50 to 50; 0 at first)";
        RingFrames x = ring("d1 1;d1 1;", "");
        due("0 at first", x.drifts(0, 0), STATE);
        due("-51", x.drifts(0, -51), BAD);
        due("51", x.drifts(0, 51), BAD);
        for (int v = -50; v <= 50; v++) {
            due("drifts(1, " + v + ")", x.drifts(1, v), 1);
            due("OFFSET", x.drive(1, 7), v);
        }
        due("the other one", x.drive(0, 7), 0);
    }

    private static void spreadFromLeastToGreatest() {
        promise = "OFF (-100 to 100), SPREAD (0 to 200)";
        RingFrames x = ring("d1 1;d1 1;", "");
        due("at first", x.count(9), 0);
        x.drifts(0, 50);
        x.drifts(1, -50);
        due("of what was never LEARNT", x.count(9), 100);
        due("MEASURED", x.measures(), 2);
        due("LEARNT", x.drive(0, 8) * 1000 + x.drive(1, 8), 49950);
        due("none", x.count(9), 0);
        x.drifts(0, -50);
        x.drifts(1, 50);
        due("the least OFF", x.drive(0, 9), -100);
        due("the greatest OFF", x.drive(1, 9), 100);
        due("the greatest SPREAD", x.count(9), 200);
        RingFrames one = new RingFrames();
        one.drifts(0, 50);
        due("SPREAD of one DRIVE", one.count(9), 0);
        RingFrames alike = ring("d1 1;d1 1;", "");
        alike.drifts(0, -7);
        alike.drifts(1, -7);
        due("SPREAD below 0 throughout", alike.count(9), 0);
        alike.drifts(1, -9);
        due("SPREAD below 0 throughout", alike.count(9), 2);
    }

    private static void measuredOfNoneAndOfAll() {
        promise = "12 measures: none, one, all";
        RingFrames whole = ring(GREATEST, "");
        due("none turns in a whole ring", whole.measures(), STATE);
        for (int cut = 0; cut <= 6; cut++) {
            RingFrames x = ring(GREATEST, "");
            x.cuts(cut);
            due("one cut: all", x.measures(), 6);
        }
        for (int cut = 1; cut <= 5; cut++) {
            RingFrames open = ring("d1 1;".repeat(6), "");
            open.cuts(cut);
            due("open, cut " + cut, open.measures(), cut);
        }
        due("one", new RingFrames().measures(), 1);
        RingFrames none = new RingFrames();
        none.cuts(0);
        due("none", none.measures(), STATE);
        due("a FRAME is not needed, and is not sent", whole.count(7), 0);
    }

    private static void answersBelowZeroThatAreNoRefusals() {
        promise = "14 drive: NO alone is BAD";
        RingFrames x = new RingFrames();
        for (int v : new int[] {BAD, STATE, FULL, NONE}) {
            x.drifts(0, v);
            due("OFFSET", x.drive(0, 7), v);
            due("OFF", x.drive(0, 9), v);
            x.measures();
            due("LEARNT", x.drive(0, 8), v);
            x.drifts(0, 0);
            due("OFF", x.drive(0, 9), -v);
            x.measures();
        }
        due("drive(0, -1)", x.drive(0, -1), NO);
        due("drive(0, 10)", x.drive(0, 10), NO);
    }

    // ---- 2: what can be undone

    private static void sixAreKnown() {
        promise = "UNDONE: 6 are known";
        RingFrames x = new RingFrames();
        due("none", x.undo(), STATE);
        for (int n = 1; n <= 8; n++) {
            x.drifts(0, n);
            due("count(12) behind " + n, x.count(12), Math.min(n, 6));
        }
        for (int left = 5; left >= 0; left--) {
            due("undo()", x.undo(), left);
            due("count(12)", x.count(12), left);
        }
        due("undo() of none", x.undo(), STATE);
        due("count(12)", x.count(12), 0);
    }

    private static void theOldestIsLost() {
        promise = "UNDONE: older ones are lost";
        RingFrames x = new RingFrames();
        for (int n = 1; n <= 20; n++) {
            x.drifts(0, n);
        }
        for (int n = 19; n >= 14; n--) {
            x.undo();
            due("OFFSET", x.drive(0, 7), n);
        }
        due("undo()", x.undo(), STATE);
        due("OFFSET stays", x.drive(0, 7), 14);
    }

    private static void undoneAndDoneAgain() {
        promise = "UNDONE, and done again";
        RingFrames x = new RingFrames();
        for (int n = 1; n <= 9; n++) {
            x.drifts(0, n);
        }
        for (int n = 0; n < 3; n++) {
            x.undo();
        }
        x.drifts(0, 30);
        x.drifts(0, 31);
        due("count(12)", x.count(12), 5);
        x.drifts(0, 32);
        x.drifts(0, 33);
        due("count(12)", x.count(12), 6);
        int[] due = {32, 31, 30, 6, 5, 4};
        for (int i = 0; i < due.length; i++) {
            due("undo()", x.undo(), 5 - i);
            due("OFFSET", x.drive(0, 7), due[i]);
        }
        due("undo()", x.undo(), STATE);
        x.drifts(0, 40);
        due("from none again", x.undo(), 0);
        due("OFFSET", x.drive(0, 7), 4);
    }

    /** Each kind of what is done but undo, in an order in which none of them is refused. */
    private static final View.Call[] DOINGS = {
        x -> wire(x, "d2 5;d3 6;z4;m2;"), x -> frame(x, "xs5 0 9;rb0 1;"), x -> x.sets(1, 0, 6), x -> x.cycles(3),
        x -> x.drifts(0, -20), x -> x.cuts(1), x -> x.measures(), x -> x.heals(1), x -> x.cycles(2),
        x -> frame(x, "rs6 0 1;"), x -> x.cycles(2), x -> x.resets(0), x -> wire(x, "d1 1;"), x -> x.cuts(0)
    };

    private static RingFrames behind(int doings) {
        RingFrames x = new RingFrames();
        for (int i = 0; i < doings; i++) {
            DOINGS[i].on(x);
        }
        return x;
    }

    private static void eachKindCanBeUndone() {
        promise = "UNDONE: all is as ahead of it";
        for (int done = 1; done <= DOINGS.length; done++) {
            due("count(12) behind " + done, behind(done).count(12), Math.min(done, 6));
            for (int undone = 1; undone <= Math.min(done, 6); undone++) {
                RingFrames x = behind(done);
                for (int i = 0; i < undone; i++) {
                    x.undo();
                }
                String difference = View.ringDifference(behind(done - undone), x);
                due(undone + " of " + done + ": " + difference, difference.length(), 0);
            }
        }
    }

    private static void whatIsRefusedIsNotKnown() {
        promise = "UNDONE: the latest that was not refused";
        RingFrames x = ring(CLOSED, "rb0 0;");
        due("count(12)", x.count(12), 2);
        x.type('q');
        x.wires();
        x.frames();
        x.clear();
        x.cuts(5);
        x.heals(0);
        x.cycles(0);
        x.resets(0);
        x.sets(0, 0, 0);
        x.drifts(0, 0);
        x.measures();
        x.sees(0, 0);
        x.forget();
        x.keep(0);
        x.back(1);
        x.would(0);
        x.ask();
        due("count(12)", x.count(12), 2);
        due("undo()", x.undo(), 1);
        due("the FRAME is UNDONE", x.count(4), 0);
        due("undo()", x.undo(), 0);
        due("the WIRE is UNDONE", x.count(0), 1);
    }

    // ---- 3: what is seen

    private static void seenFromNoneToSix() {
        promise = "SEEN (6 at most)";
        RingFrames x = new RingFrames();
        due("forget() of none", x.forget(), 0);
        for (int n = 1; n <= 6; n++) {
            due("sees", x.sees(0, 0), n);
            due("count(10)", x.count(10), n);
        }
        due("the seventh", x.sees(0, 0), FULL);
        due("count(10)", x.count(10), 6);
        due("forget() of six", x.forget(), 6);
        due("the first again", x.sees(0, 0), 1);
        for (int n = 0; n < 4; n++) {
            x.sees(4, NONE);
        }
        due("all as told", x.which(0), 1);
        x.sees(5, 0);
        due("the sixth counts, too", x.which(0), 0);
        x.forget();
        x.sees(0, 1);
        for (int n = 0; n < 5; n++) {
            x.sees(4, NONE);
        }
        due("the first counts, too", x.which(0), 0);
    }

    private static void seenFromLeastToGreatest() {
        promise = "21 sees: what (0 .. 5), v (0 .. 255; of 4, 5 NONE, too)";
        RingFrames x = new RingFrames();
        for (int what = 0; what <= 5; what++) {
            x.forget();
            due("0", x.sees(what, 0), 1);
            due("255", x.sees(what, 255), 2);
            due("-1", x.sees(what, -1), BAD);
            due("256", x.sees(what, 256), BAD);
            due("-8", x.sees(what, -8), BAD);
            due("-10", x.sees(what, -10), BAD);
            due("NONE", x.sees(what, NONE), what >= 4 ? 3 : BAD);
        }
        due("what -1", x.sees(-1, 0), BAD);
        due("what 6", x.sees(6, 0), BAD);
        due("what 6, NONE", x.sees(6, NONE), BAD);
    }

    private static void seenIsNeitherUndoneNorKept() {
        promise = "SEEN is told in 3: neither UNDONE nor kept";
        RingFrames x = ring("d1 1;d1 1;", "rb0 0;");
        x.keep(0);
        x.drifts(0, 1);
        x.sees(0, 1);
        x.undo();
        due("undo() of what was ahead of it", x.count(10), 1);
        due("how many", x.which(0), 1);
        x.drifts(0, 1);
        x.forget();
        x.undo();
        due("undo() doesn't bring it back", x.count(10), 0);
        x.sees(0, 1);
        x.keep(1);
        x.sees(4, 3);
        x.back(0);
        due("back() to an IMAGE of ahead of it", x.count(10), 2);
        due("how many", x.which(0), 1);
        x.back(1);
        due("back() to an IMAGE of between", x.count(10), 2);
        due("a WIRE told", wire(x, "d1 1;d1 1;"), 2);
        due("SEEN", x.count(10), 2);
        due("asked of the WIRE that is now", x.which(0), 0);
        due("a FRAME told", frame(x, "rb0 0;"), 1);
        due("asked of the FRAME that is now", x.which(1), 1);
    }

    private static void whichOfNoneAndOfAll() {
        promise = "WHICH: how many, the least, NONE, SOUND";
        RingFrames x = ring(GREATEST, "rb0 0;");
        due("nothing SEEN: how many", x.which(0), 7);
        due("nothing SEEN: the least", x.which(1), 0);
        due("nothing SEEN: SOUND", x.which(2), 1);
        for (int cut = 0; cut <= 6; cut++) {
            x.forget();
            x.sees(4, cut == 0 ? NONE : 20 * cut - 1);
            x.sees(5, cut == 6 ? NONE : 20 * (6 - cut) - 1);
            due("by TIMES, LINK " + cut + ": how many", x.which(0), 1);
            due("by TIMES, LINK " + cut + ": the least", x.which(1), cut);
            due("by TIMES, LINK " + cut + ": SOUND", x.which(2), 0);
        }
        x.forget();
        x.sees(4, 69);
        due("none: how many", x.which(0), 0);
        due("none: the least", x.which(1), NONE);
        due("none but SOUND", x.which(2), 1);
        x.forget();
        for (int k = 0; k <= 6; k++) {
            x.cuts(k);
            due("how many are WELL", x.which(0), 6 - k);
            due("the least that is WELL", x.which(1), k == 6 ? NONE : k + 1);
        }
        due("SOUND with none that is WELL", x.which(2), 1);
    }

    private static void anOrderThatThereIsNot() {
        promise = "an ORDER that there is not has a COUNT of 0";
        RingFrames x = new RingFrames();
        for (int what = 0; what <= 3; what++) {
            due("would(" + what + ") without a FRAME", x.would(what), 0);
            x.sees(what, 0);
        }
        due("SOUND", x.which(2), 1);
        due("how many", x.which(0), 1);
        frame(x, "rb0 0;rb0 0;");
        due("would(1)", x.would(1), 1);
        due("would(2)", x.would(2), 0);
        x.forget();
        x.sees(2, 0);
        due("SOUND", x.which(2), 1);
        x.sees(3, 1);
        due("not SOUND", x.which(2), 0);
        frame(x, "rb0 0;");
        due("an ORDER that was", x.would(1), 0);
    }

    private static void timesWithoutAFrame() {
        promise = "without a FRAME TIMES are as with one";
        for (int cut = -1; cut <= 4; cut++) {
            RingFrames with = ring(CLOSED, "xb0 1;");
            RingFrames without = ring(CLOSED, "");
            with.cuts(cut);
            without.cuts(cut);
            due("A, cut " + cut, without.would(4), with.would(4));
            due("B, cut " + cut, without.would(5), with.would(5));
            with.sees(4, 13);
            without.sees(4, 13);
            due("how many, cut " + cut, without.which(0), with.which(0));
            due("the least, cut " + cut, without.which(1), with.which(1));
            due("SOUND, cut " + cut, without.which(2), with.which(2));
            due("REACHED, cut " + cut, without.reached(1), with.reached(1));
        }
        due("ask()", ring(CLOSED, "").ask(), 4);
    }

    private static void askOfNoneOneAndTwo() {
        promise = "ASK: NONE (one can be at most)";
        RingFrames x = ring("d1 1;d1 1;d1 1;", "");
        due("three", x.ask(), 4);
        x.cuts(2);
        due("two", x.ask(), 4);
        x.cuts(1);
        due("one", x.ask(), NONE);
        x.cuts(0);
        due("none", x.ask(), NONE);
        RingFrames y = ring("d1 1;d1 1;d1 1;", "");
        y.sees(4, 3);
        due("one by what is SEEN", y.ask(), NONE);
        y.sees(4, 4);
        due("none by what is SEEN", y.ask(), NONE);
        due("a new object", new RingFrames().ask(), NONE);
    }

    private static void askOfSeveralTheFirst() {
        promise = "ASK: the least, of several the first";
        for (int i = 0; i <= 3; i++) {
            String ahead = "rs9 0 0;".repeat(i);
            due("COUNT of ORDER " + i, ring("d1 1;d1 1;", ahead + "rb0 0;").ask(), i);
        }
        due("TIME at A", ring("d1 1;d1 1;", "rs9 0 0;").ask(), 4);
        RingFrames x = ring("d1 1;d1 1;z1;", "rs9 0 0;");
        x.cuts(0);
        due("TIME at B", x.ask(), 5);
        RingFrames y = ring("d1 1;d1 1;d1 1;", "rb0 0;");
        y.cuts(0);
        due("two that are alike in all", y.ask(), 0);
        RingFrames z = ring("d1 1;".repeat(3), "rp0 0 0;rp1 0 0;rb0 0;");
        due("three of one each, ahead of two and one", z.ask(), 2);
    }

    private static void askOfNumbersThatDifferByOne() {
        promise = "ASK: one alike less is less";
        for (int cut = 1; cut <= 4; cut++) {
            // The last DRIVE ahead of the cut isn't told by COUNTS: one LINK more is alike in them than in TIME.
            RingFrames x = ring("d1 1;".repeat(cut - 1) + "d1 2;".repeat(7 - cut), "rs1 0 0;");
            x.cuts(cut);
            due("COUNT " + (6 - cut) + ", TIME " + (5 - cut), x.ask(), 4);
        }
        RingFrames y = ring("d1 1;".repeat(6) + "z1;", "rs9 0 0;rb0 0;");
        y.cuts(3);
        due("COUNTS 6 and 2, TIMES 3", y.ask(), 1);
        frame(y, "rb0 0;");
        due("COUNT 2, TIMES 3", y.ask(), 0);
        for (int drives = 3; drives <= 5; drives += 2) {
            int least = drives - 1 >> 1;
            due("TIMES " + (least + 1) + " and " + least, cutAt(drives, least).ask(), 5);
            due("TIMES " + least + " and " + (least + 1), cutAt(drives, least + 1).ask(), 4);
        }
    }

    private static RingFrames cutAt(int drives, int link) {
        RingFrames x = ring("d1 1;".repeat(drives) + "z1;", "rs9 0 0;");
        x.cuts(link);
        return x;
    }

    // ---- images

    private static void imagesZeroAndOne() {
        promise = "IMAGES 0, 1";
        RingFrames x = ring(CLOSED, "");
        due("back(0)", x.back(0), STATE);
        due("keep(0)", x.keep(0), 4);
        due("back(1) is of none yet", x.back(1), STATE);
        wire(x, "d1 1;d1 1;");
        due("keep(1)", x.keep(1), 2);
        wire(x, GREATEST);
        due("back(0)", x.back(0), 4);
        due("back(1)", x.back(1), 2);
        due("back(1) again", x.back(1), 2);
        due("back(0) again", x.back(0), 4);
        due("keep(-1)", x.keep(-1), BAD);
        due("keep(2)", x.keep(2), BAD);
        due("back(-1)", x.back(-1), BAD);
        due("back(2)", x.back(2), BAD);
        wire(x, GREATEST);
        due("keep(0) again", x.keep(0), 6);
        x.undo();
        due("what was kept gives way", x.back(0), 6);
        due("the other one stays", x.back(1), 2);
        RingFrames other = new RingFrames();
        due("keep(1) alone", other.keep(1), 1);
        due("back(0) is of none yet", other.back(0), STATE);
        due("back(1)", other.back(1), 1);
    }

    private static void imagesKeepNothingElse() {
        promise = "IMAGES keep nothing else; nothing can be UNDONE behind back()";
        for (int done = 0; done <= DOINGS.length; done++) {
            RingFrames x = behind(done);
            int known = x.count(12);
            x.keep(1);
            due("keep loses nothing", x.count(12), known);
            x.sees(4, 3);
            wire(x, "d5 5;z5;");
            typeAll(x, "d1");
            x.back(1);
            due("nothing can be UNDONE", x.count(12), 0);
            due("undo()", x.undo(), STATE);
            due("SEEN", x.count(10), 1);
            due("letters", x.count(11), 2);
            String difference = View.ringDifference(behind(done), x);
            due("back behind " + done + ": " + difference, difference.length(), 0);
            x.drifts(0, 33);
            due("what is done then", x.count(12), 1);
        }
    }

    // ---- what is asked

    private static void resultsOfNoCycle() {
        promise = "17, 18: none was since the FRAME was told";
        RingFrames x = ring("d1 1;", "rb0 0;".repeat(4));
        for (int i = 0; i <= 3; i++) {
            due("COUNT", x.result(i, 0), NONE);
            due("DATA", x.result(i, 1), NONE);
        }
        due("no such ORDER", x.result(4, 0), BAD);
        due("TIME", x.time(0), NONE);
        x.cycles(1);
        due("COUNT of the last ORDER", x.result(3, 0), 1);
        due("DATA of the last ORDER", x.result(3, 1), 0);
        due("no such ORDER", x.result(4, 0), BAD);
        due("TIME", x.time(0), 3);
        due("TIME at PORT B", x.time(1), NONE);
        frame(x, "rb0 0;rb0 0;");
        due("a FRAME told", x.result(0, 0), NONE);
        due("TIME", x.time(0), NONE);
        due("no such ORDER", x.result(2, 0), BAD);
        x.undo();
        due("UNDONE", x.result(3, 0), 1);
        due("TIME", x.time(0), 3);
        wire(x, "d1 1;");
        due("a WIRE told", x.result(0, 0), BAD);
        due("TIME", x.time(0), NONE);
    }

    private static void allThatIsCounted() {
        promise = "27 count: 0 to 12";
        RingFrames x = ring(GREATEST, "rs0 0 0;".repeat(4));
        for (int d = 0; d < 6; d++) {
            x.drifts(d, d == 0 ? -50 : 50);
        }
        for (int k = 0; k <= 6; k++) {
            x.cuts(k);
        }
        x.cycles(20);
        x.heals(3);
        x.cuts(3);
        for (int n = 0; n < 6; n++) {
            x.sees(0, 0);
        }
        typeAll(x, " ".repeat(120));
        int[] counts = {6, 7, 1, 9, 4, 7, 6, 20, 1, 100, 6, 120, 6};
        due("count(-1)", x.count(-1), BAD);
        for (int what = 0; what < counts.length; what++) {
            due("count(" + what + ")", x.count(what), counts[what]);
        }
        due("count(13)", x.count(13), BAD);
    }

    private static void the512thCall() {
        promise = "512 calls";
        RingFrames x = new RingFrames();
        for (int n = 1; n <= 511; n++) {
            due("call " + n, x.drifts(0, n % 100 - 50), 1);
        }
        due("call 512", x.undo(), 5);
        RingFrames y = new RingFrames();
        for (int n = 1; n <= 255; n++) {
            due("cuts(0)", y.cuts(0), 1);
            due("heals(0)", y.heals(0), 0);
        }
        due("call 511", y.count(12), 6);
        due("call 512", y.would(4), 3);
    }
}
