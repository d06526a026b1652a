import java.util.ArrayList;
import java.util.List;

/**
 * All that calls can show of an object. What can be undone, the images and the letters of THE TEXT show only when they
 * are used, so each way to use them is gone on an object of its own, made anew.
 */
final class View {
    interface Maker {
        RingFrames make();
    }

    interface Call {
        int on(RingFrames x);
    }

    private static final int MOST_UNDONE = 6;

    private View() { }

    /** Where the two can be told apart, or "" if nowhere. */
    static String difference(Maker one, Maker other) {
        List<Call> ways = ways();
        for (int way = 0; way < ways.size(); way++) {
            RingFrames x = one.make();
            RingFrames y = other.make();
            int first = ways.get(way).on(x);
            int second = ways.get(way).on(y);
            if (first != second) {
                return "way " + way + ": " + first + " and " + second;
            }
            String shown = firstDifference(allShown(x), allShown(y));
            if (!shown.isEmpty()) {
                return "way " + way + ": " + shown;
            }
        }
        return "";
    }

    /** As difference, of what sections 1 and 2 of the document tell but THE TEXT. */
    static String ringDifference(RingFrames x, RingFrames y) {
        return firstDifference(ringShown(x), ringShown(y));
    }

    private static List<Call> ways() {
        List<Call> ways = new ArrayList<>();
        for (int n = 0; n <= MOST_UNDONE; n++) {
            int times = n;
            ways.add(x -> undoes(x, times));
        }
        ways.add(x -> x.back(0));
        ways.add(x -> x.back(1));
        ways.add(RingFrames::wires);
        ways.add(RingFrames::frames);
        return ways;
    }

    private static int undoes(RingFrames x, int times) {
        int last = 0;
        for (int i = 0; i < times; i++) {
            last = x.undo();
        }
        return last;
    }

    private static String firstDifference(List<String> one, List<String> other) {
        for (int i = 0; i < one.size(); i++) {
            if (!one.get(i).equals(other.get(i))) {
                return one.get(i) + " and " + other.get(i);
            }
        }
        return "";
    }

    private static List<String> allShown(RingFrames x) {
        List<String> shown = ringShown(x);
        for (int what = 10; what <= 12; what++) {
            shown.add("count(" + what + ") " + x.count(what));
        }
        for (int what = 0; what <= 2; what++) {
            shown.add("which(" + what + ") " + x.which(what));
        }
        shown.add("ask() " + x.ask());
        return shown;
    }

    private static List<String> ringShown(RingFrames x) {
        List<String> shown = new ArrayList<>();
        for (int what = 0; what <= 9; what++) {
            shown.add("count(" + what + ") " + x.count(what));
        }
        for (int d = 0; d < x.count(0); d++) {
            for (int what = 0; what <= 9; what++) {
                shown.add("drive(" + d + ", " + what + ") " + x.drive(d, what));
            }
        }
        for (int k = 0; k < x.count(1); k++) {
            shown.add("link(" + k + ", 0) " + x.link(k, 0));
            shown.add("link(" + k + ", 1) " + x.link(k, 1));
        }
        for (int i = 0; i < x.count(4); i++) {
            for (int what = 0; what <= 4; what++) {
                shown.add("order(" + i + ", " + what + ") " + x.order(i, what));
            }
            shown.add("result(" + i + ", 0) " + x.result(i, 0));
            shown.add("result(" + i + ", 1) " + x.result(i, 1));
        }
        for (int side = 0; side <= 1; side++) {
            shown.add("time(" + side + ") " + x.time(side));
            shown.add("reached(" + side + ") " + x.reached(side));
        }
        for (int what = 0; what <= 5; what++) {
            shown.add("would(" + what + ") " + x.would(what));
        }
        return shown;
    }
}
