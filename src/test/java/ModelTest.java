import java.util.ArrayDeque;
import java.util.ArrayList;
import java.util.Deque;
import java.util.HashMap;
import java.util.List;
import java.util.Map;
import java.util.Random;

/**
 * Random runs of calls, each answer against a second reading of the document: a model that walks every copy link by
 * link and keeps whole copies of its state. It shares no code and no formula with the class.
 */
public final class ModelTest {
    private static final int RUNS = 6000, CALLS = 512;
    private static final int BAD = -1, STATE = -2, FULL = -3, NONE = -9, NO = -1000000;

    // ------------------------------------------------------------------ the model

    static final class Drive {
        int station, misses, offset, learnt;
        boolean safe;
        int[] bytes = new int[4];

        Drive twin() {
            Drive d = new Drive();
            d.station = station;
            d.misses = misses;
            d.offset = offset;
            d.learnt = learnt;
            d.safe = safe;
            d.bytes = bytes.clone();
            return d;
        }
    }

    static final class Link {
        int length;
        boolean cut;

        Link(int length, boolean cut) {
            this.length = length;
            this.cut = cut;
        }
    }

    record Order(char op, char aim, int n, int at, int v) { }

    static final class State {
        List<Drive> drives = new ArrayList<>();
        List<Link> links = new ArrayList<>();
        List<Order> orders = new ArrayList<>();
        int limit = 3, cyclesRun;
        boolean closed, wasCut;
        int[][] results; // per order count, data; null: no cycle since the frame was told
        int[] times = {NONE, NONE};

        State twin() {
            State s = new State();
            for (Drive d : drives) s.drives.add(d.twin());
            for (Link l : links) s.links.add(new Link(l.length, l.cut));
            s.orders = new ArrayList<>(orders);
            s.limit = limit;
            s.cyclesRun = cyclesRun;
            s.closed = closed;
            s.wasCut = wasCut;
            if (results != null) {
                s.results = new int[results.length][];
                for (int i = 0; i < results.length; i++) s.results[i] = results[i].clone();
            }
            s.times = times.clone();
            return s;
        }
    }

    /** A copy of the frame on its way. */
    static final class Walk {
        final int[] data, counts, places;
        int ticks, port = -1, processedBits, visitedBits;
        boolean turned;

        Walk(State s) {
            int n = s.orders.size();
            data = new int[n];
            counts = new int[n];
            places = new int[n];
            for (int i = 0; i < n; i++) {
                data[i] = s.orders.get(i).v();
                places[i] = s.orders.get(i).n();
            }
        }

        void process(State s, int k, boolean[] served) {
            Drive d = s.drives.get(k);
            processedBits |= 1 << k;
            for (int i = 0; i < s.orders.size(); i++) {
                Order o = s.orders.get(i);
                boolean mine = switch (o.aim()) {
                    case 'p' -> places[i]-- == 0;
                    case 's' -> o.n() == d.station;
                    default -> true;
                };
                if (!mine) continue;
                served[k] = true;
                int b = d.bytes[o.at()];
                switch (o.op()) {
                    case 'r' -> {
                        data[i] = o.aim() == 'b' ? (data[i] | b) : b;
                        counts[i] += 1;
                    }
                    case 'w' -> {
                        if (!d.safe) {
                            d.bytes[o.at()] = data[i];
                            counts[i] += 1;
                        }
                    }
                    default -> {
                        if (d.safe) {
                            counts[i] += 1;
                        } else {
                            d.bytes[o.at()] = data[i];
                            counts[i] += 3;
                        }
                        data[i] = b;
                    }
                }
            }
        }
    }

    static Walk walkA(State s, boolean[] served) {
        Walk w = new Walk(s);
        int k = 0;
        if (s.links.get(0).cut) return w;
        while (true) {
            w.ticks += s.links.get(k).length;
            if (k == s.drives.size()) {
                w.port = 1;
                return w;
            }
            w.process(s, k, served);
            w.visitedBits |= 1 << k;
            w.ticks += 1;
            if (k + 1 >= s.links.size() || s.links.get(k + 1).cut) break;
            k++;
        }
        w.turned = true;
        while (true) {
            w.ticks += s.links.get(k).length;
            if (k == 0) {
                w.port = 0;
                return w;
            }
            k--;
            w.ticks += 1;
        }
    }

    static Walk walkB(State s, boolean[] served) {
        Walk w = new Walk(s);
        if (!s.closed) return w;
        int n = s.drives.size();
        int k = n;
        if (s.links.get(n).cut) return w;
        while (true) {
            w.ticks += s.links.get(k).length;
            if (k == 0) {
                w.port = 0;
                return w;
            }
            w.visitedBits |= 1 << (k - 1);
            w.ticks += 1;
            if (s.links.get(k - 1).cut) break;
            k--;
        }
        w.turned = true;
        int d = k - 1;
        w.process(s, d, served);
        while (true) {
            w.ticks += s.links.get(d + 1).length;
            if (d + 1 == n) {
                w.port = 1;
                return w;
            }
            d++;
            w.process(s, d, served);
            w.ticks += 1;
        }
    }

    static Walk[] send(State s, boolean[] served) {
        Walk a = walkA(s, served);
        Walk b = walkB(s, served);
        s.times = new int[] {NONE, NONE};
        if (a.port >= 0) s.times[a.port] = a.ticks;
        if (b.port >= 0) s.times[b.port] = b.ticks;
        s.results = new int[s.orders.size()][];
        for (int i = 0; i < s.results.length; i++) {
            Order o = s.orders.get(i);
            int data = b.counts[i] > 0 ? b.data[i] : a.data[i];
            if (o.op() == 'r' && o.aim() == 'b') data = a.data[i] | b.data[i];
            s.results[i] = new int[] {a.counts[i] + b.counts[i], data};
        }
        return new Walk[] {a, b};
    }

    static void cycle(State s) {
        boolean[] served = new boolean[s.drives.size()];
        if (s.wasCut) {
            s.times = new int[] {NONE, NONE};
            s.results = new int[s.orders.size()][];
            for (int i = 0; i < s.results.length; i++) s.results[i] = new int[] {0, s.orders.get(i).v()};
        } else {
            send(s, served);
        }
        s.wasCut = false;
        s.cyclesRun++;
        for (int k = 0; k < served.length; k++) {
            Drive d = s.drives.get(k);
            d.misses = served[k] ? 0 : d.misses + 1;
            if (d.misses >= s.limit && !d.safe) {
                d.safe = true;
                d.bytes = new int[4];
            }
        }
    }

    static final class Model {
        State now = new State();
        StringBuilder text = new StringBuilder();
        Deque<State> past = new ArrayDeque<>();
        State[] images = new State[2];
        List<int[]> seen = new ArrayList<>();
        int fault;

        Model() {
            now.drives.add(new Drive());
            now.links.add(new Link(1, false));
        }

        void remember() {
            past.push(now.twin());
            if (past.size() > 6) past.removeLast();
        }

        record Token(int place, char kind, int number) { } // kind '0': a number; '$': the end; '?': wrong

        List<Token> tokens() {
            List<Token> list = new ArrayList<>();
            int i = 0;
            while (i < text.length()) {
                char c = text.charAt(i);
                if (c == ' ') {
                    i++;
                } else if (c >= '0' && c <= '9') {
                    int j = i;
                    while (j < text.length() && text.charAt(j) >= '0' && text.charAt(j) <= '9') j++;
                    String row = text.substring(i, j);
                    boolean good = row.length() <= 3 && (row.length() == 1 || row.charAt(0) != '0')
                        && Integer.parseInt(row) <= 255;
                    list.add(new Token(i, good ? '0' : '?', good ? Integer.parseInt(row) : 0));
                    i = j;
                } else {
                    list.add(new Token(i, "dzmrwxpsb;".indexOf(c) >= 0 ? c : '?', 0));
                    i++;
                }
            }
            list.add(new Token(text.length(), '$', 0));
            return list;
        }

        /** The state the wire would make, or null with fault. */
        State readWire() {
            State s = new State();
            List<Token> list = tokens();
            String expect = ""; // what is still due in the item: L, S, m-number N, semicolon
            char item = 0;
            int length = 0, station = 0;
            boolean told = false;
            for (Token t : list) {
                fault = t.place();
                if (t.kind() == '$') return expect.isEmpty() && !s.drives.isEmpty() ? s : null;
                if (expect.isEmpty()) {
                    item = t.kind();
                    if (item == 'd' && s.drives.size() < 6 && !s.closed) {
                        expect = "LS;";
                    } else if (item == 'z' && !s.drives.isEmpty() && !s.closed) {
                        expect = "L;";
                    } else if (item == 'm' && !told) {
                        expect = "N;";
                    } else {
                        return null;
                    }
                    continue;
                }
                char want = expect.charAt(0);
                expect = expect.substring(1);
                if (want == ';') {
                    if (t.kind() != ';') return null;
                    if (item == 'd') {
                        Drive d = new Drive();
                        d.station = station;
                        s.drives.add(d);
                    }
                    if (item != 'm') s.links.add(new Link(length, false));
                    if (item == 'z') s.closed = true;
                    if (item == 'm') told = true;
                    continue;
                }
                if (t.kind() != '0') return null;
                if (want == 'S') {
                    if (t.number() > 15) return null;
                    station = t.number();
                } else {
                    if (t.number() < 1 || t.number() > 9) return null;
                    if (want == 'L') length = t.number();
                    else s.limit = t.number();
                }
            }
            return null;
        }

        List<Order> readFrame() {
            List<Order> orders = new ArrayList<>();
            List<Token> list = tokens();
            int i = 0;
            while (true) {
                Token t = list.get(i++);
                fault = t.place();
                if (t.kind() == '$') return orders.isEmpty() ? null : orders;
                if (orders.size() == 4 || "rwx".indexOf(t.kind()) < 0) return null;
                Token aim = list.get(i++);
                fault = aim.place();
                if ("psb".indexOf(aim.kind()) < 0) return null;
                int[] most = aim.kind() == 'b' ? new int[] {3, 255} : new int[] {15, 3, 255};
                int[] got = new int[most.length];
                for (int j = 0; j < most.length; j++) {
                    Token n = list.get(i++);
                    fault = n.place();
                    if (n.kind() != '0' || n.number() > most[j]) return null;
                    got[j] = n.number();
                }
                Token semi = list.get(i++);
                fault = semi.place();
                if (semi.kind() != ';') return null;
                int n = aim.kind() == 'b' ? NONE : got[0];
                orders.add(new Order(t.kind(), aim.kind(), n, got[got.length - 2], got[got.length - 1]));
            }
        }

        boolean isDrive(int d) { return d >= 0 && d < now.drives.size(); }
        boolean isLink(int k) { return k >= 0 && k < now.links.size(); }
        int cutLinks() { return (int) now.links.stream().filter(l -> l.cut).count(); }
        int safeDrives() { return (int) now.drives.stream().filter(d -> d.safe).count(); }

        /** Six looks at the frame, sent with link k cut too (k below 0: with none more). */
        int[] looks(int k) {
            State s = now.twin();
            if (k >= 0) s.links.get(k).cut = true;
            send(s, new boolean[s.drives.size()]);
            int[] six = new int[6];
            for (int i = 0; i < s.results.length; i++) six[i] = s.results[i][0];
            six[4] = s.times[0];
            six[5] = s.times[1];
            return six;
        }

        boolean fits(int[] six) {
            for (int[] one : seen) if (six[one[0]] != one[1]) return false;
            return true;
        }

        List<Integer> suspects() {
            List<Integer> list = new ArrayList<>();
            for (int k = 0; k < now.links.size(); k++) {
                if (!now.links.get(k).cut && fits(looks(k))) list.add(k);
            }
            return list;
        }

        int ask() {
            List<Integer> list = suspects();
            if (list.size() < 2) return NONE;
            int best = -1, least = 99;
            for (int what = 0; what < 6; what++) {
                Map<Integer, Integer> groups = new HashMap<>();
                for (int k : list) groups.merge(looks(k)[what], 1, Integer::sum);
                int most = groups.values().stream().max(Integer::compare).get();
                if (most < least) {
                    least = most;
                    best = what;
                }
            }
            return best;
        }

        int measures() {
            State s = now.twin();
            Walk[] two = send(s, new boolean[s.drives.size()]);
            int bits = (two[0].turned ? two[0].visitedBits : 0) | (two[1].turned ? two[1].visitedBits : 0);
            if (bits == 0) return STATE;
            remember();
            for (int k = 0; k < now.drives.size(); k++) {
                if ((bits & 1 << k) != 0) now.drives.get(k).learnt = now.drives.get(k).offset;
            }
            return Integer.bitCount(bits);
        }

        int call(int which, int a, int b, int c) {
            switch (which) {
                case 0:
                    if (a < 0 || a > 255) return BAD;
                    if (text.length() == 120) return FULL;
                    text.append((char) a);
                    return text.length();
                case 1: {
                    int had = text.length();
                    text.setLength(0);
                    return had;
                }
                case 2: {
                    State s = readWire();
                    if (s == null) return -10 - fault;
                    remember();
                    now = s;
                    text.setLength(0);
                    return now.drives.size();
                }
                case 3: {
                    List<Order> orders = readFrame();
                    if (orders == null) return -10 - fault;
                    remember();
                    now.orders = orders;
                    now.results = null;
                    now.times = new int[] {NONE, NONE};
                    text.setLength(0);
                    return orders.size();
                }
                case 4:
                case 5: {
                    if (!isLink(a)) return BAD;
                    boolean cut = which == 4;
                    if (now.links.get(a).cut == cut) return STATE;
                    remember();
                    now.links.get(a).cut = cut;
                    if (cut) now.wasCut = true;
                    return cutLinks();
                }
                case 6:
                    if (a < 1 || a > 20) return BAD;
                    if (now.orders.isEmpty()) return STATE;
                    remember();
                    for (int i = 0; i < a; i++) cycle(now);
                    return safeDrives();
                case 7: {
                    if (!isDrive(a)) return BAD;
                    Drive d = now.drives.get(a);
                    if (!d.safe && d.misses == 0) return STATE;
                    remember();
                    int had = d.misses;
                    d.safe = false;
                    d.misses = 0;
                    return had;
                }
                case 8: {
                    if (!isDrive(a) || b < 0 || b > 3 || c < 0 || c > 255) return BAD;
                    Drive d = now.drives.get(a);
                    if (d.safe || d.bytes[b] == c) return STATE;
                    remember();
                    int had = d.bytes[b];
                    d.bytes[b] = c;
                    return had;
                }
                case 9:
                    if (!isDrive(a) || b < -50 || b > 50) return BAD;
                    if (now.drives.get(a).offset == b) return STATE;
                    remember();
                    now.drives.get(a).offset = b;
                    return 1;
                case 10:
                    return measures();
                case 11:
                    if (past.isEmpty()) return STATE;
                    now = past.pop();
                    return past.size();
                default:
                    return question(which, a, b);
            }
        }

        int question(int which, int a, int b) {
            switch (which) {
                case 12: {
                    if (!isDrive(a) || b < 0 || b > 9) return NO;
                    Drive d = now.drives.get(a);
                    return new int[] {d.station, d.bytes[0], d.bytes[1], d.bytes[2], d.bytes[3], d.misses,
                        d.safe ? 1 : 0, d.offset, d.learnt, d.offset - d.learnt}[b];
                }
                case 13:
                    if (!isLink(a) || b < 0 || b > 1) return BAD;
                    return b == 0 ? now.links.get(a).length : now.links.get(a).cut ? 1 : 0;
                case 14: {
                    if (a < 0 || a >= now.orders.size() || b < 0 || b > 4) return BAD;
                    Order o = now.orders.get(a);
                    return new int[] {o.op(), o.aim(), o.n(), o.at(), o.v()}[b];
                }
                case 15:
                    if (a < 0 || a >= now.orders.size() || b < 0 || b > 1) return BAD;
                    return now.results == null ? NONE : now.results[a][b];
                case 16:
                    return a < 0 || a > 1 ? BAD : now.times[a];
                case 17: {
                    if (a < 0 || a > 1) return BAD;
                    State s = now.twin();
                    return send(s, new boolean[s.drives.size()])[a].processedBits;
                }
                case 18:
                    return a < 0 || a > 5 ? BAD : looks(-1)[a];
                case 19: {
                    if (a < 0 || a > 5) return BAD;
                    if ((b < 0 || b > 255) && !(a > 3 && b == NONE)) return BAD;
                    if (seen.size() == 6) return FULL;
                    seen.add(new int[] {a, b});
                    return seen.size();
                }
                case 20: {
                    int had = seen.size();
                    seen.clear();
                    return had;
                }
                case 21: {
                    if (a < 0 || a > 2) return BAD;
                    if (a == 2) return fits(looks(-1)) ? 1 : 0;
                    List<Integer> list = suspects();
                    return a == 0 ? list.size() : list.isEmpty() ? NONE : list.get(0);
                }
                case 22:
                    return ask();
                case 23:
                    if (a < 0 || a > 1) return BAD;
                    images[a] = now.twin();
                    return now.drives.size();
                case 24:
                    if (a < 0 || a > 1) return BAD;
                    if (images[a] == null) return STATE;
                    now = images[a].twin();
                    past.clear();
                    return now.drives.size();
                default:
                    return counted(a);
            }
        }

        int counted(int what) {
            switch (what) {
                case 0: return now.drives.size();
                case 1: return now.links.size();
                case 2: return now.closed ? 1 : 0;
                case 3: return now.limit;
                case 4: return now.orders.size();
                case 5: return cutLinks();
                case 6: return safeDrives();
                case 7: return now.cyclesRun;
                case 8: return now.wasCut ? 1 : 0;
                case 9: {
                    int most = now.drives.stream().mapToInt(d -> d.offset - d.learnt).max().getAsInt();
                    int least = now.drives.stream().mapToInt(d -> d.offset - d.learnt).min().getAsInt();
                    return most - least;
                }
                case 10: return seen.size();
                case 11: return text.length();
                case 12: return past.size();
                default: return BAD;
            }
        }
    }

    // ------------------------------------------------------------------ the runs

    static final String[] NAMES = {"type", "clear", "wires", "frames", "cuts", "heals", "cycles", "resets", "sets",
        "drifts", "measures", "undo", "drive", "link", "order", "result", "time", "reached", "would", "sees",
        "forget", "which", "ask", "keep", "back", "count"};

    static int callReal(RingFrames x, int which, int a, int b, int c) {
        return switch (which) {
            case 0 -> x.type(a);
            case 1 -> x.clear();
            case 2 -> x.wires();
            case 3 -> x.frames();
            case 4 -> x.cuts(a);
            case 5 -> x.heals(a);
            case 6 -> x.cycles(a);
            case 7 -> x.resets(a);
            case 8 -> x.sets(a, b, c);
            case 9 -> x.drifts(a, b);
            case 10 -> x.measures();
            case 11 -> x.undo();
            case 12 -> x.drive(a, b);
            case 13 -> x.link(a, b);
            case 14 -> x.order(a, b);
            case 15 -> x.result(a, b);
            case 16 -> x.time(a);
            case 17 -> x.reached(a);
            case 18 -> x.would(a);
            case 19 -> x.sees(a, b);
            case 20 -> x.forget();
            case 21 -> x.which(a);
            case 22 -> x.ask();
            case 23 -> x.keep(a);
            case 24 -> x.back(a);
            default -> x.count(a);
        };
    }

    final Random random;
    final RingFrames real = new RingFrames();
    final Model model = new Model();
    final StringBuilder log = new StringBuilder();
    int calls = 0;
    boolean wrong = false;
    static final Map<String, Integer> met = new HashMap<>();

    ModelTest(long seed) {
        random = new Random(seed);
    }

    void both(int which, int a, int b, int c) {
        if (wrong || calls >= CALLS) return;
        calls++;
        int want = model.call(which, a, b, c);
        int got = callReal(real, which, a, b, c);
        log.append(NAMES[which]).append('(').append(a).append(", ").append(b).append(", ").append(c).append(") ")
            .append(got).append('\n');
        met.merge(NAMES[which] + (want == BAD || want == NO ? " bad" : want == STATE ? " state" : want == FULL ? " full"
            : want == NONE ? " none" : want <= -10 && which <= 3 ? " fault" : ""), 1, Integer::sum);
        if (got != want) {
            wrong = true;
            System.out.println(log + "due is " + want);
        }
    }

    int upTo(int most) { return random.nextInt(most + 1); }

    /** Mostly 0 to most, at times a bit outside, at times far outside. */
    int about(int most) {
        int dice = upTo(39);
        if (dice == 0) return random.nextInt();
        if (dice <= 2) return upTo(most + 2) - 1;
        if (dice == 3) return random.nextBoolean() ? -1 : most + 1;
        return upTo(most);
    }

    String gap() { return upTo(9) == 0 ? " ".repeat(1 + upTo(1)) : ""; }

    String number(int least, int most) {
        if (upTo(59) == 0) return new String[] {"0", "00", "01", "9", "10", "15", "16", "255", "256", "4294967297",
            "3", "4", "99999999999"}[upTo(12)];
        return Integer.toString(least + upTo(most - least));
    }

    String wireText() {
        StringBuilder s = new StringBuilder(gap());
        boolean few = upTo(9) != 0;
        int n = 1 + upTo(few ? 5 : 6);
        int at = upTo(2) == 0 ? upTo(n) : -1;
        for (int i = 0; i < n; i++) {
            if (i == at) s.append("m").append(gap()).append(number(1, 9)).append(gap()).append(";");
            s.append("d").append(gap()).append(number(1, 9)).append(" ").append(gap());
            s.append(upTo(1) == 0 ? number(0, 3) : number(0, 15)).append(gap()).append(";").append(gap());
        }
        if (upTo(2) > 0) s.append("z").append(gap()).append(number(1, 9)).append(gap()).append(";");
        if (at == n || upTo(29) == 0) s.append("m").append(number(1, 9)).append(";");
        return s.append(gap()).toString();
    }

    String frameText() {
        StringBuilder s = new StringBuilder(gap());
        int n = 1 + upTo(upTo(19) == 0 ? 4 : 3);
        for (int i = 0; i < n; i++) {
            s.append("rwx".charAt(upTo(2))).append(gap());
            char aim = "psb".charAt(upTo(2));
            s.append(aim).append(gap());
            if (aim != 'b') s.append(upTo(3) > 0 ? number(0, 5) : number(0, 15)).append(" ");
            s.append(number(0, 3)).append(" ").append(gap()).append(number(0, 255)).append(gap());
            s.append(";").append(gap());
        }
        return s.toString();
    }

    String marred(String s) {
        int dice = upTo(11);
        if (dice > 2 || s.isEmpty()) return s;
        int at = upTo(s.length() - 1);
        String some = "dzmrwxpsb; 0123456789q";
        char c = upTo(7) == 0 ? (char) upTo(255) : some.charAt(upTo(some.length() - 1));
        if (dice == 0) return s.substring(0, at) + c + s.substring(at + 1);
        if (dice == 1) return s.substring(0, at) + s.substring(at + 1);
        return s.substring(0, at);
    }

    void tell(String s, int which) {
        if (upTo(19) > 0) both(1, 0, 0, 0);
        for (int i = 0; i < s.length(); i++) both(0, s.charAt(i), 0, 0);
        both(upTo(39) == 0 ? 5 - which : which, 0, 0, 0);
    }

    void lookAtAll() {
        for (int d = 0; d < 7; d++) for (int what = 0; what < 10; what++) both(12, d, what, 0);
        for (int k = 0; k < 8; k++) for (int what = 0; what < 2; what++) both(13, k, what, 0);
        for (int i = 0; i < 5; i++) for (int what = 0; what < 5; what++) both(14, i, what, 0);
        for (int i = 0; i < 5; i++) for (int what = 0; what < 2; what++) both(15, i, what, 0);
        for (int what = 0; what < 13; what++) both(25, what, 0, 0);
        for (int what = 0; what < 6; what++) both(18, what, 0, 0);
        for (int what = 0; what < 2; what++) both(16, what, 0, 0);
    }

    void seeSomething() {
        int what = about(5);
        int v = upTo(255);
        if (upTo(19) == 0) {
            v = about(255);
        } else if (what >= 0 && what <= 5) {
            // What a cut would show, so that something is left to suspect.
            v = model.looks(upTo(model.now.links.size()) - 1)[what];
        }
        both(19, what, v, 0);
    }

    void step() {
        int dice = upTo(99);
        if (dice < 3) tell(marred(wireText()), 2);
        else if (dice < 8) tell(marred(frameText()), 3);
        else if (dice < 16) both(4, about(model.now.links.size() - 1), 0, 0);
        else if (dice < 23) both(5, about(model.now.links.size() - 1), 0, 0);
        else if (dice < 33) both(6, upTo(3) == 0 ? about(20) : 1 + upTo(2), 0, 0);
        else if (dice < 37) both(7, about(model.now.drives.size() - 1), 0, 0);
        else if (dice < 42) both(8, about(model.now.drives.size() - 1), about(3), about(255));
        else if (dice < 46) both(9, about(model.now.drives.size() - 1), upTo(9) == 0 ? about(102) - 51 : upTo(6) - 3, 0);
        else if (dice < 49) both(10, 0, 0, 0);
        else if (dice < 54) both(11, 0, 0, 0);
        else if (dice < 57) both(12, about(5), about(9), 0);
        else if (dice < 59) both(13, about(6), about(1), 0);
        else if (dice < 61) both(14, about(3), about(4), 0);
        else if (dice < 65) both(15, about(3), about(1), 0);
        else if (dice < 67) both(16, about(1), 0, 0);
        else if (dice < 70) both(17, about(1), 0, 0);
        else if (dice < 74) both(18, about(5), 0, 0);
        else if (dice < 79) seeSomething();
        else if (dice < 81) both(20, 0, 0, 0);
        else if (dice < 86) both(21, about(2), 0, 0);
        else if (dice < 90) both(22, 0, 0, 0);
        else if (dice < 92) both(23, about(1), 0, 0);
        else if (dice < 94) both(24, about(1), 0, 0);
        else if (dice < 99) both(25, about(12), 0, 0);
        else fillText();
    }

    void fillText() {
        if (upTo(4) > 0) both(0, about(255), 0, 0);
        else for (int i = 0; i < 122; i++) both(0, ' ', 0, 0);
    }

    boolean run() {
        if (upTo(9) > 0) {
            tell(wireText(), 2);
            tell(frameText(), 3);
        }
        while (calls < CALLS - 165 && !wrong) step();
        lookAtAll();
        return !wrong;
    }

    public static void main(String[] args) {
        int failed = 0;
        for (long seed = 1; seed <= RUNS && failed < 3; seed++) {
            if (!new ModelTest(seed).run()) {
                System.out.println("seed " + seed);
                failed++;
            }
        }
        if (args.length > 0) met.entrySet().stream().sorted(Map.Entry.comparingByKey())
            .forEach(e -> System.out.println(e.getKey() + ": " + e.getValue()));
        if (failed != 0) System.exit(1);
    }
}
