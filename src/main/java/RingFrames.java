import java.util.Arrays;

/** Drives in a ring and the frames of orders that pass through them; ../shared/DOC.md says what each call answers. */
public final class RingFrames {
    public static final int BAD = -1, STATE = -2, FULL = -3, NONE = -9;
    public static final int NO = -1000000;

    private static final int MOST_DRIVES = 6, MOST_LINKS = 7, MOST_ORDERS = 4, MOST_LETTERS = 120;
    private static final int MOST_UNDONE = 6, MOST_SEEN = 6, MOST_CYCLES = 20, IMAGES = 2;
    private static final int BYTES = 4, GREATEST_BYTE = 255, GREATEST_OFFSET = 50;
    private static final int GREATEST_LENGTH = 9, GREATEST_STATION = 15, GREATEST_LIMIT = 9, USUAL_LIMIT = 3;

    // The columns of a row are numbered as the calls drive, link, order and result number them.
    private static final int STATION = 0, FIRST_BYTE = 1, MISSES = 5, SAFE = 6, OFFSET = 7, LEARNT = 8, OFF = 9;
    private static final int DRIVE_COLUMNS = 9;
    private static final int LENGTH = 0, CUT = 1, LINK_COLUMNS = 2;
    private static final int LETTER = 0, AIM = 1, NUMBER = 2, AT = 3, VALUE = 4, ORDER_COLUMNS = 5;
    private static final int COUNT = 0, DATA = 1, RESULT_COLUMNS = 2;
    private static final int PORT_A = 0, PORT_B = 1, PORTS = 2;

    // What can be looked at in a frame that was sent: the counts of four orders, the times at both ports.
    private static final int FIRST_TIME = 4, LOOKS = 6;

    // Kinds of tokens; a token of one letter has that letter (0 to 255) for its kind.
    private static final int FIGURES = 256, END = 257, WRONG = 258;
    private static final int NO_NUMBER = -1;
    private static final int FAULT_BASE = -10;

    private final Ring ring;
    private final Ring draft;
    private final Ring trial;
    private final Text text;
    private final Reader reader;
    private final Sender sender;
    private final History history;
    private final Ring[] images;
    private final boolean[] kept;
    private final Sightings sightings;
    private final Suspects suspects;

    public RingFrames() {
        ring = new Ring();
        draft = new Ring();
        trial = new Ring();
        text = new Text();
        reader = new Reader(text);
        sender = new Sender();
        history = new History();
        images = new Ring[IMAGES];
        for (int i = 0; i < IMAGES; i++) {
            images[i] = new Ring();
        }
        kept = new boolean[IMAGES];
        sightings = new Sightings();
        suspects = new Suspects();
    }

    // ---- what is told

    public int type(int letter) {
        if (letter < 0 || letter > 255) {
            return BAD;
        }
        if (text.size >= MOST_LETTERS) {
            return FULL;
        }
        text.append(letter);
        return text.size;
    }

    public int clear() {
        int had = text.size;
        text.size = 0;
        return had;
    }

    public int wires() {
        if (!reader.readsWire(draft)) {
            return FAULT_BASE - text.place;
        }
        adoptDraft();
        return ring.drives;
    }

    public int frames() {
        draft.copyFrom(ring);
        if (!reader.readsFrame(draft)) {
            return FAULT_BASE - text.place;
        }
        adoptDraft();
        return ring.orders;
    }

    private void adoptDraft() {
        history.push(ring);
        ring.copyFrom(draft);
        text.size = 0;
    }

    // ---- what is done

    public int cuts(int link) {
        if (!ring.hasLink(link)) {
            return BAD;
        }
        if (ring.isCut(link)) {
            return STATE;
        }
        history.push(ring);
        ring.putLink(link, CUT, 1);
        ring.freshCut = true;
        return ring.cutLinks();
    }

    public int heals(int link) {
        if (!ring.hasLink(link)) {
            return BAD;
        }
        if (!ring.isCut(link)) {
            return STATE;
        }
        history.push(ring);
        ring.putLink(link, CUT, 0);
        return ring.cutLinks();
    }

    public int cycles(int n) {
        if (n < 1 || n > MOST_CYCLES) {
            return BAD;
        }
        if (ring.orders == 0) {
            return STATE;
        }
        history.push(ring);
        for (int i = 0; i < n; i++) {
            sender.runCycle(ring);
        }
        return ring.safeDrives();
    }

    public int resets(int drive) {
        if (!ring.hasDrive(drive)) {
            return BAD;
        }
        int misses = ring.ofDrive(drive, MISSES);
        if (!ring.isSafe(drive) && misses == 0) {
            return STATE;
        }
        history.push(ring);
        ring.putDrive(drive, SAFE, 0);
        ring.putDrive(drive, MISSES, 0);
        return misses;
    }

    public int sets(int drive, int at, int v) {
        if (!ring.hasDrive(drive) || at < 0 || at >= BYTES || v < 0 || v > GREATEST_BYTE) {
            return BAD;
        }
        int was = ring.ofDrive(drive, FIRST_BYTE + at);
        if (was == v || ring.isSafe(drive)) {
            return STATE;
        }
        history.push(ring);
        ring.putDrive(drive, FIRST_BYTE + at, v);
        return was;
    }

    public int drifts(int drive, int v) {
        if (!ring.hasDrive(drive) || v < -GREATEST_OFFSET || v > GREATEST_OFFSET) {
            return BAD;
        }
        if (ring.ofDrive(drive, OFFSET) == v) {
            return STATE;
        }
        history.push(ring);
        ring.putDrive(drive, OFFSET, v);
        return 1;
    }

    public int measures() {
        int measured = ring.bitsOfTurning();
        if (measured == 0) {
            return STATE;
        }
        history.push(ring);
        ring.learn(measured);
        return Integer.bitCount(measured);
    }

    public int undo() {
        if (history.size == 0) {
            return STATE;
        }
        history.pop(ring);
        return history.size;
    }

    // ---- as it is

    public int drive(int d, int what) {
        if (!ring.hasDrive(d) || what < 0 || what > OFF) {
            return NO;
        }
        return what == OFF ? ring.offOf(d) : ring.ofDrive(d, what);
    }

    public int link(int k, int what) {
        if (!ring.hasLink(k) || what < 0 || what >= LINK_COLUMNS) {
            return BAD;
        }
        return ring.ofLink(k, what);
    }

    public int order(int i, int what) {
        if (!ring.hasOrder(i) || what < 0 || what >= ORDER_COLUMNS) {
            return BAD;
        }
        return ring.ofOrder(i, what);
    }

    public int result(int i, int what) {
        if (!ring.hasOrder(i) || what < 0 || what >= RESULT_COLUMNS) {
            return BAD;
        }
        return ring.hasResults ? ring.ofResult(i, what) : NONE;
    }

    public int time(int port) {
        if (port < 0 || port >= PORTS) {
            return BAD;
        }
        return ring.times[port];
    }

    // ---- what would be

    public int reached(int copy) {
        if (copy < PORT_A || copy > PORT_B) {
            return BAD;
        }
        return copy == PORT_A ? ring.bitsOfA() : ring.bitsOfB();
    }

    public int would(int what) {
        if (what < 0 || what >= LOOKS) {
            return BAD;
        }
        sendTrial(NONE);
        return trial.look(what);
    }

    /** The trial ring becomes the ring with one link more cut (NONE: with no link more) and the frame sent. */
    private void sendTrial(int link) {
        trial.copyFrom(ring);
        if (trial.hasLink(link)) {
            trial.putLink(link, CUT, 1);
        }
        sender.send(trial);
    }

    // ---- which link

    public int sees(int what, int v) {
        boolean noTime = what >= FIRST_TIME && v == NONE;
        if (what < 0 || what >= LOOKS || !noTime && (v < 0 || v > GREATEST_BYTE)) {
            return BAD;
        }
        if (sightings.size >= MOST_SEEN) {
            return FULL;
        }
        sightings.append(what, v);
        return sightings.size;
    }

    public int forget() {
        int had = sightings.size;
        sightings.size = 0;
        return had;
    }

    public int which(int what) {
        if (what < 0 || what > 2) {
            return BAD;
        }
        if (what == 2) {
            sendTrial(NONE);
            return sightings.agreeWith(trial) ? 1 : 0;
        }
        findSuspects();
        if (what == 0) {
            return suspects.size;
        }
        return suspects.size == 0 ? NONE : suspects.links[0];
    }

    public int ask() {
        findSuspects();
        return suspects.size <= 1 ? NONE : suspects.bestLook();
    }

    private void findSuspects() {
        suspects.size = 0;
        int links = ring.links();
        for (int k = 0; k < links; k++) {
            if (!ring.isCut(k)) {
                sendTrial(k);
                if (sightings.agreeWith(trial)) {
                    suspects.append(k, trial);
                }
            }
        }
    }

    // ---- images

    public int keep(int image) {
        if (image < 0 || image >= IMAGES) {
            return BAD;
        }
        images[image].copyFrom(ring);
        kept[image] = true;
        return ring.drives;
    }

    public int back(int image) {
        if (image < 0 || image >= IMAGES) {
            return BAD;
        }
        if (!kept[image]) {
            return STATE;
        }
        ring.copyFrom(images[image]);
        history.size = 0;
        return ring.drives;
    }

    public int count(int what) {
        switch (what) {
            case 0: return ring.drives;
            case 1: return ring.links();
            case 2: return ring.closed ? 1 : 0;
            case 3: return ring.limit;
            case 4: return ring.orders;
            case 5: return ring.cutLinks();
            case 6: return ring.safeDrives();
            case 7: return ring.cyclesRun;
            case 8: return ring.freshCut ? 1 : 0;
            case 9: return ring.spread();
            case 10: return sightings.size;
            case 11: return text.size;
            case 12: return history.size;
            default: return BAD;
        }
    }

    /** All that sections 1 and 2 of the document tell but THE TEXT: what is undone and what an image keeps. */
    private static final class Ring {
        private final int[] driveRows = new int[MOST_DRIVES * DRIVE_COLUMNS];
        private final int[] linkRows = new int[MOST_LINKS * LINK_COLUMNS];
        private final int[] orderRows = new int[MOST_ORDERS * ORDER_COLUMNS];
        private final int[] resultRows = new int[MOST_ORDERS * RESULT_COLUMNS];
        private final int[] times = new int[PORTS];
        private int drives;
        private int orders;
        private int limit;
        private int cyclesRun;
        private boolean closed;
        private boolean hasResults;
        private boolean freshCut;

        Ring() {
            becomeEmpty();
            addDrive(1, 0);
        }

        void becomeEmpty() {
            drives = 0;
            closed = false;
            limit = USUAL_LIMIT;
            cyclesRun = 0;
            freshCut = false;
            dropFrame();
        }

        void dropFrame() {
            orders = 0;
            hasResults = false;
            Arrays.fill(times, NONE);
        }

        void copyFrom(Ring other) {
            System.arraycopy(other.driveRows, 0, driveRows, 0, driveRows.length);
            System.arraycopy(other.linkRows, 0, linkRows, 0, linkRows.length);
            System.arraycopy(other.orderRows, 0, orderRows, 0, orderRows.length);
            System.arraycopy(other.resultRows, 0, resultRows, 0, resultRows.length);
            System.arraycopy(other.times, 0, times, 0, times.length);
            drives = other.drives;
            orders = other.orders;
            limit = other.limit;
            cyclesRun = other.cyclesRun;
            closed = other.closed;
            hasResults = other.hasResults;
            freshCut = other.freshCut;
        }

        boolean takesDrive() {
            return !closed && drives < MOST_DRIVES;
        }

        void addDrive(int length, int station) {
            if (takesDrive()) {
                int first = drives * DRIVE_COLUMNS;
                Arrays.fill(driveRows, first, first + DRIVE_COLUMNS, 0);
                driveRows[first + STATION] = station;
                putNewLink(drives, length);
                drives++;
            }
        }

        boolean takesClosing() {
            return !closed && drives > 0;
        }

        void closeBy(int length) {
            if (takesClosing()) {
                putNewLink(drives, length);
                closed = true;
            }
        }

        private void putNewLink(int k, int length) {
            putLink(k, LENGTH, length);
            putLink(k, CUT, 0);
        }

        boolean takesOrder() {
            return orders < MOST_ORDERS;
        }

        void addOrder(int letter, int aim, int number, int at, int value) {
            if (takesOrder()) {
                int first = orders * ORDER_COLUMNS;
                orderRows[first + LETTER] = letter;
                orderRows[first + AIM] = aim;
                orderRows[first + NUMBER] = number;
                orderRows[first + AT] = at;
                orderRows[first + VALUE] = value;
                orders++;
            }
        }

        boolean hasDrive(int d) {
            return d >= 0 && d < drives;
        }

        boolean hasLink(int k) {
            return k >= 0 && k < links();
        }

        boolean hasOrder(int i) {
            return i >= 0 && i < orders;
        }

        int links() {
            return closed ? drives + 1 : drives;
        }

        int ofDrive(int d, int column) {
            return driveRows[d * DRIVE_COLUMNS + column];
        }

        void putDrive(int d, int column, int v) {
            driveRows[d * DRIVE_COLUMNS + column] = v;
        }

        int ofLink(int k, int column) {
            return linkRows[k * LINK_COLUMNS + column];
        }

        void putLink(int k, int column, int v) {
            linkRows[k * LINK_COLUMNS + column] = v;
        }

        int ofOrder(int i, int column) {
            return orderRows[i * ORDER_COLUMNS + column];
        }

        int ofResult(int i, int column) {
            return resultRows[i * RESULT_COLUMNS + column];
        }

        void putResult(int i, int count, int data) {
            resultRows[i * RESULT_COLUMNS + COUNT] = count;
            resultRows[i * RESULT_COLUMNS + DATA] = data;
        }

        boolean isSafe(int d) {
            return driveRows[d * DRIVE_COLUMNS + SAFE] == 1;
        }

        boolean isCut(int k) {
            return linkRows[k * LINK_COLUMNS + CUT] == 1;
        }

        int safeDrives() {
            int safe = 0;
            for (int d = 0; d < drives; d++) {
                safe += ofDrive(d, SAFE);
            }
            return safe;
        }

        int cutLinks() {
            int cut = 0;
            for (int k = 0; k < links(); k++) {
                cut += ofLink(k, CUT);
            }
            return cut;
        }

        /** Copies that meet no cut in a closed ring come out at the other port and turn nowhere. */
        boolean isWhole() {
            return closed && cutLinks() == 0;
        }

        /** Copy A is processed by the drives below this one. */
        int endOfA() {
            for (int k = 0; k < drives; k++) {
                if (isCut(k)) {
                    return k;
                }
            }
            return drives;
        }

        /** Copy B is processed by this drive and those above it. */
        int startOfB() {
            if (!closed) {
                return drives;
            }
            for (int k = drives; k >= 0; k--) {
                if (isCut(k)) {
                    return k;
                }
            }
            return drives;
        }

        int bitsOfA() {
            return (1 << endOfA()) - 1;
        }

        int bitsOfB() {
            return (1 << drives) - (1 << startOfB());
        }

        int bitsOfTurning() {
            return isWhole() ? 0 : bitsOfA() | bitsOfB();
        }

        void learn(int bits) {
            for (int d = 0; d < drives; d++) {
                if ((bits >> d & 1) == 1) {
                    putDrive(d, LEARNT, ofDrive(d, OFFSET));
                }
            }
        }

        int offOf(int d) {
            return ofDrive(d, OFFSET) - ofDrive(d, LEARNT);
        }

        int spread() {
            int least = offOf(0);
            int greatest = least;
            for (int d = 1; d < drives; d++) {
                least = Math.min(least, offOf(d));
                greatest = Math.max(greatest, offOf(d));
            }
            return greatest - least;
        }

        void takeTimesAround() {
            Arrays.fill(times, lengths(0, drives) + drives);
        }

        void takeTimesOfTurning() {
            int end = endOfA();
            int start = startOfB();
            times[PORT_A] = timeThereAndBack(lengths(0, end - 1), end);
            times[PORT_B] = timeThereAndBack(lengths(start + 1, drives), drives - start);
        }

        private int lengths(int first, int last) {
            int sum = 0;
            for (int k = first; k <= last; k++) {
                sum += ofLink(k, LENGTH);
            }
            return sum;
        }

        private static int timeThereAndBack(int lengths, int passed) {
            return passed == 0 ? NONE : 2 * lengths + 2 * passed - 1;
        }

        /** What is seen of a frame that was sent: counts of orders 0 to 3, times at both ports. */
        int look(int what) {
            if (what >= FIRST_TIME) {
                return times[what - FIRST_TIME];
            }
            return what < orders ? ofResult(what, COUNT) : 0;
        }

        void countMiss(int d) {
            int misses = ofDrive(d, MISSES) + 1;
            putDrive(d, MISSES, misses);
            if (misses >= limit && !isSafe(d)) {
                putDrive(d, SAFE, 1);
                for (int at = 0; at < BYTES; at++) {
                    putDrive(d, FIRST_BYTE + at, 0);
                }
            }
        }
    }

    /** One of the two copies of a frame that is under way. */
    private static final class Copy {
        private final int[] data = new int[MOST_ORDERS];
        private final int[] counts = new int[MOST_ORDERS];
        private final int[] places = new int[MOST_ORDERS];

        void start(Ring ring) {
            for (int i = 0; i < ring.orders; i++) {
                data[i] = ring.ofOrder(i, VALUE);
                counts[i] = 0;
                places[i] = ring.ofOrder(i, NUMBER);
            }
        }

        /** Answers whether order i is for drive d, and moves its place on. */
        boolean comesFor(Ring ring, int i, int d) {
            int aim = ring.ofOrder(i, AIM);
            if (aim == 'p') {
                boolean here = places[i] == 0;
                places[i]--;
                return here;
            }
            return aim == 'b' || ring.ofOrder(i, NUMBER) == ring.ofDrive(d, STATION);
        }

        void obey(Ring ring, int i, int d) {
            int letter = ring.ofOrder(i, LETTER);
            int column = FIRST_BYTE + ring.ofOrder(i, AT);
            int held = ring.ofDrive(d, column);
            boolean safe = ring.isSafe(d);
            if (letter == 'r') {
                data[i] = ring.ofOrder(i, AIM) == 'b' ? data[i] | held : held;
                counts[i]++;
                return;
            }
            if (!safe) {
                ring.putDrive(d, column, data[i]);
            }
            if (letter == 'x') {
                data[i] = held;
                counts[i] += safe ? 1 : 3;
            } else if (!safe) {
                counts[i]++;
            }
        }
    }

    /** Sends frames; its copies are used again for each. */
    private static final class Sender {
        private final Copy copyA = new Copy();
        private final Copy copyB = new Copy();
        private int served;

        void runCycle(Ring ring) {
            served = 0;
            if (ring.freshCut) {
                sendNothing(ring);
            } else {
                send(ring);
            }
            for (int d = 0; d < ring.drives; d++) {
                if ((served >> d & 1) == 1) {
                    ring.putDrive(d, MISSES, 0);
                } else {
                    ring.countMiss(d);
                }
            }
            ring.freshCut = false;
            ring.cyclesRun++;
        }

        private void sendNothing(Ring ring) {
            for (int i = 0; i < ring.orders; i++) {
                ring.putResult(i, 0, ring.ofOrder(i, VALUE));
            }
            ring.hasResults = true;
            Arrays.fill(ring.times, NONE);
        }

        void send(Ring ring) {
            copyA.start(ring);
            copyB.start(ring);
            int end = ring.endOfA();
            for (int d = 0; d < end; d++) {
                pass(ring, d, copyA);
            }
            for (int d = ring.startOfB(); d < ring.drives; d++) {
                pass(ring, d, copyB);
            }
            for (int i = 0; i < ring.orders; i++) {
                ring.putResult(i, copyA.counts[i] + copyB.counts[i], joinedData(ring, i));
            }
            ring.hasResults = true;
            if (ring.isWhole()) {
                ring.takeTimesAround();
            } else {
                ring.takeTimesOfTurning();
            }
        }

        private void pass(Ring ring, int d, Copy copy) {
            for (int i = 0; i < ring.orders; i++) {
                if (copy.comesFor(ring, i, d)) {
                    served |= 1 << d;
                    copy.obey(ring, i, d);
                }
            }
        }

        private int joinedData(Ring ring, int i) {
            if (ring.ofOrder(i, LETTER) == 'r' && ring.ofOrder(i, AIM) == 'b') {
                return copyA.data[i] | copyB.data[i];
            }
            return copyB.counts[i] > 0 ? copyB.data[i] : copyA.data[i];
        }
    }

    /** THE TEXT, and the token of it that is being looked at. */
    private static final class Text {
        private final int[] letters = new int[MOST_LETTERS];
        private int size;
        private int next;
        private int place;
        private int kind;
        private int number;

        void append(int letter) {
            if (size < MOST_LETTERS) {
                letters[size] = letter;
                size++;
            }
        }

        void begin() {
            next = 0;
            step();
        }

        void step() {
            while (next < size && letters[next] == ' ') {
                next++;
            }
            place = next;
            if (next >= size) {
                kind = END;
            } else if (isFigure(letters[next])) {
                stepOverFigures();
            } else {
                kind = letters[next];
                next++;
            }
        }

        private void stepOverFigures() {
            number = 0;
            while (next < size && isFigure(letters[next])) {
                // Held low, since a row of figures can be longer than an int can hold.
                number = Math.min(10 * number + letters[next] - '0', GREATEST_BYTE + 1);
                next++;
            }
            boolean zeroAhead = letters[place] == '0' && next - place > 1;
            kind = zeroAhead || number > GREATEST_BYTE ? WRONG : FIGURES;
        }

        private static boolean isFigure(int letter) {
            return letter >= '0' && letter <= '9';
        }
    }

    /** Reads a wire or a frame out of the text; if it can't, the text's token is the one at fault. */
    private static final class Reader {
        private final Text text;
        private boolean limitTold;

        Reader(Text text) {
            this.text = text;
        }

        boolean readsWire(Ring draft) {
            draft.becomeEmpty();
            limitTold = false;
            text.begin();
            for (int item = 0; item < MOST_LETTERS && text.kind != END; item++) {
                if (!readsItem(draft)) {
                    return false;
                }
            }
            return draft.drives > 0;
        }

        private boolean readsItem(Ring draft) {
            switch (text.kind) {
                case 'd': return readsDrive(draft);
                case 'z': return readsClosing(draft);
                case 'm': return readsLimit(draft);
                default: return false;
            }
        }

        private boolean readsDrive(Ring draft) {
            if (!draft.takesDrive()) {
                return false;
            }
            text.step();
            int length = takeNumber(1, GREATEST_LENGTH);
            if (length == NO_NUMBER) {
                return false;
            }
            int station = takeNumber(0, GREATEST_STATION);
            if (station == NO_NUMBER || !takesEnd()) {
                return false;
            }
            draft.addDrive(length, station);
            return true;
        }

        private boolean readsClosing(Ring draft) {
            if (!draft.takesClosing()) {
                return false;
            }
            text.step();
            int length = takeNumber(1, GREATEST_LENGTH);
            if (length == NO_NUMBER || !takesEnd()) {
                return false;
            }
            draft.closeBy(length);
            return true;
        }

        private boolean readsLimit(Ring draft) {
            if (limitTold) {
                return false;
            }
            text.step();
            int limit = takeNumber(1, GREATEST_LIMIT);
            if (limit == NO_NUMBER || !takesEnd()) {
                return false;
            }
            draft.limit = limit;
            limitTold = true;
            return true;
        }

        boolean readsFrame(Ring draft) {
            draft.dropFrame();
            text.begin();
            for (int item = 0; item < MOST_LETTERS && text.kind != END; item++) {
                if (!readsOrder(draft)) {
                    return false;
                }
            }
            return draft.orders > 0;
        }

        private boolean readsOrder(Ring draft) {
            int letter = text.kind;
            if (!draft.takesOrder() || letter != 'r' && letter != 'w' && letter != 'x') {
                return false;
            }
            text.step();
            int aim = text.kind;
            if (aim != 'p' && aim != 's' && aim != 'b') {
                return false;
            }
            text.step();
            int number = aim == 'b' ? NONE : takeNumber(0, GREATEST_STATION);
            if (number == NO_NUMBER) {
                return false;
            }
            int at = takeNumber(0, BYTES - 1);
            if (at == NO_NUMBER) {
                return false;
            }
            int value = takeNumber(0, GREATEST_BYTE);
            if (value == NO_NUMBER || !takesEnd()) {
                return false;
            }
            draft.addOrder(letter, aim, number, at, value);
            return true;
        }

        /** Steps on only over what may stand there, so that the token at fault stays the one looked at. */
        private int takeNumber(int least, int most) {
            if (text.kind != FIGURES || text.number < least || text.number > most) {
                return NO_NUMBER;
            }
            int number = text.number;
            text.step();
            return number;
        }

        private boolean takesEnd() {
            if (text.kind != ';') {
                return false;
            }
            text.step();
            return true;
        }
    }

    /** The rings as they were ahead of the latest things done; the oldest gives way. */
    private static final class History {
        private final Ring[] rings = new Ring[MOST_UNDONE];
        private int next;
        private int size;

        History() {
            for (int i = 0; i < MOST_UNDONE; i++) {
                rings[i] = new Ring();
            }
        }

        void push(Ring ring) {
            rings[next].copyFrom(ring);
            next = next + 1 < MOST_UNDONE ? next + 1 : 0;
            size = Math.min(size + 1, MOST_UNDONE);
        }

        void pop(Ring ring) {
            if (size > 0) {
                next = next > 0 ? next - 1 : MOST_UNDONE - 1;
                size--;
                ring.copyFrom(rings[next]);
            }
        }
    }

    /** What was seen. */
    private static final class Sightings {
        private final int[] whats = new int[MOST_SEEN];
        private final int[] values = new int[MOST_SEEN];
        private int size;

        void append(int what, int value) {
            if (size < MOST_SEEN) {
                whats[size] = what;
                values[size] = value;
                size++;
            }
        }

        boolean agreeWith(Ring sent) {
            for (int i = 0; i < size; i++) {
                if (sent.look(whats[i]) != values[i]) {
                    return false;
                }
            }
            return true;
        }
    }

    /** The links that may be the one that is cut, and what would be seen with each. */
    private static final class Suspects {
        private final int[] links = new int[MOST_LINKS];
        private final int[] looks = new int[MOST_LINKS * LOOKS];
        private int size;

        void append(int link, Ring sent) {
            if (size < MOST_LINKS) {
                links[size] = link;
                for (int what = 0; what < LOOKS; what++) {
                    looks[size * LOOKS + what] = sent.look(what);
                }
                size++;
            }
        }

        int bestLook() {
            int best = 0;
            int bestAlike = mostAlike(0);
            for (int what = 1; what < LOOKS; what++) {
                int alike = mostAlike(what);
                if (alike < bestAlike) {
                    best = what;
                    bestAlike = alike;
                }
            }
            return best;
        }

        private int mostAlike(int what) {
            int most = 0;
            for (int i = 0; i < size; i++) {
                most = Math.max(most, alikeWith(i, what));
            }
            return most;
        }

        private int alikeWith(int i, int what) {
            int alike = 0;
            for (int j = 0; j < size; j++) {
                if (looks[j * LOOKS + what] == looks[i * LOOKS + what]) {
                    alike++;
                }
            }
            return alike;
        }
    }
}
