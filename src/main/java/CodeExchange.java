import java.util.Arrays;

/**
 * An exchange of code pages: tables of byte texts with states and shifts, pages that differ from
 * others, and built-in forms, by which bytes are read to units and units are written to bytes.
 *
 * All rows are made once, in the constructors, and used again by every call.
 */
public final class CodeExchange {
    private static final int BEYOND = -1;
    private static final int NONE = -2;
    private static final int KIND = -3;
    private static final int CLOSED = -4;
    private static final int OPEN = -5;
    private static final int FULL = -6;
    private static final int THERE = -7;
    private static final int BAD = -8;
    private static final int MALFORMED = -9;
    private static final int MISSING = -10;
    private static final int LOOP = -11;
    private static final int LONG = -12;
    private static final int SUM = -13;

    private static final int TABLE = 0;
    private static final int HIGH = 1;
    private static final int LOW = 2;
    private static final int FEW = 3;

    private static final int REFUSE = 0;
    private static final int SIGN = 1;
    private static final int DROP = 2;
    private static final int KEEP = 3;
    private static final int FALLBACK = 4;

    private static final int MOST_PAGES = 10;
    private static final int MOST_ENTRIES = 100;
    private static final int MOST_SHIFTS = 10;
    private static final int STATES = 4;
    /** What is pending when nothing is: the number behind the last state. */
    private static final int NOTHING = STATES;
    private static final int MOST_TEXT = 3;

    private static final int MOST_INPUT = 1000;
    private static final int MOST_RESULT = 6000;
    /** One byte may be read to the two units of one point, so no input is read to more. */
    private static final int MOST_READ = 2 * MOST_INPUT;

    private static final int MOST_FALLBACKS = 40;
    private static final int MOST_PARTS = 4;
    private static final int MOST_WHOLE = 16;

    private static final int MACHINES = 4;
    private static final int MOST_WAITING = 300;
    /** A point is written to three shifts and three bytes at most, a fallback to 16 such points. */
    private static final int MOST_BURST = 128;

    private static final int LAST_POINT = 0x10FFFF;
    private static final int FIRST_HALF = 0xD800;
    private static final int FIRST_LOW_HALF = 0xDC00;
    private static final int LAST_HALF = 0xDFFF;
    private static final int LONE = -1;

    private static final int NO_RESULT = 0;
    private static final int UNITS = 1;
    private static final int BYTES = 2;

    private final Page[] pages = new Page[MOST_PAGES];
    private int pageCount;
    /** The page that the next receive() is read into; kept when what was read is no page. */
    private Page spare;
    private final Row bytes = new Row(MOST_INPUT);
    private final Row units = new Row(MOST_INPUT);
    private Row result = new Row(MOST_RESULT);
    private int resultKind = NO_RESULT;
    /** Where the next result is made, so that the one there is stays with a finding. */
    private Row work = new Row(MOST_RESULT);
    private final Row between = new Row(MOST_READ);
    private final Rules rules;
    private final Reader reader;
    private final Writer writer;
    private final Machine[] machines = new Machine[MACHINES];
    private int place;
    private final int[] broken = new int[3];
    private final int[] unheard = new int[3];
    private int findings;

    public CodeExchange() {
        Rules shared = new Rules();
        // Readers and writers hold a page at all times, so that none has to be looked at for null.
        Page blank = new Page(FEW);
        rules = shared;
        reader = new Reader(shared, blank);
        writer = new Writer(shared, blank);
        for (int d = 0; d < MACHINES; d++) {
            machines[d] = new Machine(shared, blank);
        }
    }

    // ---- pages

    public int page(int kind) {
        if (kind < TABLE || kind > FEW) {
            return answer(BEYOND);
        }
        if (pageCount >= MOST_PAGES) {
            return answer(FULL);
        }
        return addPage(new Page(kind));
    }

    public int derive(int q) {
        int finding = tableFinding(q);
        if (finding == 0 && !pages[q].closed) {
            finding = OPEN;
        }
        if (finding == 0 && pageCount >= MOST_PAGES) {
            finding = FULL;
        }
        if (finding != 0) {
            return answer(finding);
        }
        Page made = new Page(TABLE);
        made.entries.copyFrom(pages[q].entries);
        made.shifts.copyFrom(pages[q].shifts);
        return addPage(made);
    }

    public int entry(int p, int state, int bytes, int n, int code) {
        int finding = openTableFinding(p);
        if (finding != 0) {
            return answer(finding);
        }
        boolean preferred = code >= 0;
        int point = preferred ? code : -1 - code;
        if (!isText(state, bytes, n) || !isPoint(point)) {
            return answer(BEYOND);
        }
        Entries entries = pages[p].entries;
        int slot = entries.slotOf(state, bytes, n);
        if (slot >= 0) {
            entries.put(slot, state, bytes, n, point, preferred);
            return 1;
        }
        if (entries.count >= MOST_ENTRIES) {
            return answer(FULL);
        }
        entries.put(entries.count, state, bytes, n, point, preferred);
        return 0;
    }

    public int shift(int p, int state, int b, int to, boolean sticky) {
        int finding = openTableFinding(p);
        if (finding != 0) {
            return answer(finding);
        }
        if (!isState(state) || !isState(to) || state == to || !isByte(b)) {
            return answer(BEYOND);
        }
        Shifts shifts = pages[p].shifts;
        if (shifts.slotOf(state, b) >= 0) {
            return answer(THERE);
        }
        if (shifts.count >= MOST_SHIFTS) {
            return answer(FULL);
        }
        shifts.add(state, b, to, sticky);
        return 0;
    }

    public int drop(int p, int state, int bytes, int n) {
        int finding = openTableFinding(p);
        if (finding != 0) {
            return answer(finding);
        }
        if (!isText(state, bytes, n)) {
            return answer(BEYOND);
        }
        Page page = pages[p];
        int slot = page.entries.slotOf(state, bytes, n);
        if (slot >= 0) {
            page.entries.removeAt(slot);
            return 0;
        }
        slot = n == 1 ? page.shifts.slotOf(state, bytes) : -1;
        if (slot < 0) {
            return answer(NONE);
        }
        page.shifts.removeAt(slot);
        return 1;
    }

    public int close(int p) {
        int finding = openTableFinding(p);
        if (finding != 0) {
            return answer(finding);
        }
        if (!pages[p].isGood(broken)) {
            return answer(BAD);
        }
        pages[p].settle();
        return 0;
    }

    public int size(int p, int what) {
        if (!isPage(p)) {
            return answer(BEYOND);
        }
        Page page = pages[p];
        switch (what) {
            case 0:
                return page.kind;
            case 1:
                return page.closed ? 1 : 0;
            case 2:
                return page.entries.count;
            case 3:
                return page.shifts.count;
            default:
                return answer(BEYOND);
        }
    }

    public long code(int p, int point) {
        int finding = closedFinding(p);
        if (finding != 0) {
            return answer(finding);
        }
        if (!isPoint(point)) {
            return answer(BEYOND);
        }
        Page page = pages[p];
        if (page.kind != TABLE) {
            return Forms.textOf(page.kind, point);
        }
        int slot = page.slotOf(point);
        return slot < 0 ? answer(NONE) : page.textAt(slot);
    }

    // ---- input, result

    public int bytesIn(long w, int n) {
        if (n < 1 || n > 8) {
            return answer(BEYOND);
        }
        if (bytes.count + n > MOST_INPUT) {
            return answer(FULL);
        }
        for (int left = n - 1; left >= 0; left--) {
            bytes.add((int) (w >>> (8 * left)) & 0xFF);
        }
        return bytes.count;
    }

    public int unitsIn(long w, int n) {
        if (n < 1 || n > 4) {
            return answer(BEYOND);
        }
        if (units.count + n > MOST_INPUT) {
            return answer(FULL);
        }
        for (int left = n - 1; left >= 0; left--) {
            units.add((int) (w >>> (16 * left)) & 0xFFFF);
        }
        return units.count;
    }

    public int fill(int what) {
        switch (what) {
            case 0:
                return emptied(bytes);
            case 1:
                return emptied(units);
            case 2:
                return answer(resultTo(bytes, BYTES));
            case 3:
                return answer(resultTo(units, UNITS));
            default:
                return answer(BEYOND);
        }
    }

    public int decode(int p, int rule) {
        int finding = closedFinding(p);
        if (finding == 0 && !isReadRule(rule)) {
            finding = BEYOND;
        }
        if (finding != 0) {
            return answer(finding);
        }
        return answer(keepWork(readAll(pages[p], rule, work), UNITS));
    }

    public int encode(int p, int rule) {
        int finding = closedFinding(p);
        if (finding == 0 && !isWriteRule(rule)) {
            finding = BEYOND;
        }
        if (finding != 0) {
            return answer(finding);
        }
        writer.open(pages[p], rule, 0);
        return answer(keepWork(writeAll(units), BYTES));
    }

    public int transcode(int p, int rule, int q, int by) {
        int finding = bothClosedFinding(p, q);
        if (finding == 0 && (!isReadRule(rule) || !isWriteRule(by))) {
            finding = BEYOND;
        }
        if (finding == 0) {
            finding = Math.min(readAll(pages[p], rule, between), 0);
        }
        if (finding != 0) {
            return answer(finding);
        }
        writer.open(pages[q], by, 0);
        return answer(keepWork(writeAll(between), BYTES));
    }

    public int result(int i) {
        if (i < 0 || i >= result.count) {
            return answer(NONE);
        }
        return result.values[i];
    }

    // ---- rules

    public int sign(int which, int point) {
        if (which < 0 || which > 1 || !isPoint(point)) {
            return answer(BEYOND);
        }
        int before = which == 0 ? rules.readSign : rules.writeSign;
        if (which == 0) {
            rules.readSign = point;
        } else {
            rules.writeSign = point;
        }
        return before;
    }

    public int fallback(int point) {
        if (!isPoint(point)) {
            return answer(BEYOND);
        }
        if (!unitsAreParts()) {
            return answer(BAD);
        }
        int finding = rules.replace(point, between);
        if (finding != 0) {
            return answer(finding);
        }
        units.clear();
        return rules.count;
    }

    // ---- machines

    public int begin(int d, int p, boolean writes, int rule) {
        if (!isMachine(d)) {
            return answer(BEYOND);
        }
        int finding = closedFinding(p);
        if (finding == 0 && !(writes ? isWriteRule(rule) : isReadRule(rule))) {
            finding = BEYOND;
        }
        if (finding != 0) {
            return answer(finding);
        }
        machines[d].start(pages[p], writes, rule);
        return 0;
    }

    public int feed(int d, int v) {
        int finding = goingFinding(d);
        if (finding != 0) {
            return answer(finding);
        }
        Machine machine = machines[d];
        if (v < 0 || v > (machine.writes ? 0xFFFF : 0xFF)) {
            return answer(BEYOND);
        }
        if (machine.waiting > MOST_WAITING) {
            return answer(FULL);
        }
        return fedAnswer(machine, machine.writes ? machine.acceptUnit(v) : machine.acceptByte(v));
    }

    public int end(int d) {
        int finding = goingFinding(d);
        if (finding != 0) {
            return answer(finding);
        }
        Machine machine = machines[d];
        if (machine.waiting > MOST_WAITING) {
            return answer(FULL);
        }
        return fedAnswer(machine, machine.writes ? machine.endUnits() : machine.endBytes());
    }

    public int take(int d) {
        if (!isMachine(d)) {
            return answer(BEYOND);
        }
        if (machines[d].waiting < 1) {
            return answer(NONE);
        }
        return machines[d].takeFirst();
    }

    public int machine(int d, int what) {
        if (!isMachine(d)) {
            return answer(BEYOND);
        }
        Machine machine = machines[d];
        if (machine.phase == Machine.NEW) {
            return answer(NONE);
        }
        switch (what) {
            case 0:
                return machine.waiting;
            case 1:
                return machine.writes ? machine.writer.state : machine.reader.state;
            case 2:
                return machine.reader.pending;
            case 3:
                return machine.keeps;
            case 4:
                return machine.phase;
            default:
                return answer(BEYOND);
        }
    }

    // ---- pages beside one another

    public int coverage(int p, int from, int to) {
        int finding = closedFinding(p);
        if (finding != 0) {
            return answer(finding);
        }
        if (from < 0 || to > LAST_POINT || to < from || to - from >= 65536) {
            return answer(BEYOND);
        }
        return pages[p].pointsWithin(from, to);
    }

    public int differ(int p, int q, int from) {
        int finding = bothClosedFinding(p, q);
        if (finding != 0) {
            return answer(finding);
        }
        if (from < 0 || from > LAST_POINT) {
            return answer(BEYOND);
        }
        Page one = pages[p];
        Page other = pages[q];
        if (p == q || (one.kind == other.kind && one.kind != TABLE)) {
            return answer(NONE);
        }
        int stop = Math.min(from + 4096, LAST_POINT + 1);
        for (int point = from; point < stop; point++) {
            // Points that neither page has are passed over at once; never back, so the loop ends.
            point = Math.max(point, Math.min(one.pointFrom(point), other.pointFrom(point)));
            if (point < stop && writtenApart(one, other, point)) {
                return point;
            }
        }
        return answer(NONE);
    }

    public int misread(int p, int q) {
        int finding = bothClosedFinding(p, q);
        if (finding != 0) {
            return answer(finding);
        }
        int one = readAll(pages[p], KEEP, between);
        int other = readAll(pages[q], KEEP, work);
        int shared = Math.min(one, other);
        int apart = Math.max(one, other) - shared;
        for (int i = 0; i < shared; i++) {
            if (between.values[i] != work.values[i]) {
                apart++;
            }
        }
        return apart;
    }

    public int faults(int p) {
        int finding = closedFinding(p);
        if (finding != 0) {
            return answer(finding);
        }
        return malformedBytes(pages[p]);
    }

    public int detect() {
        int best = NONE;
        int fewest = MOST_INPUT + 1;
        for (int p = 0; p < pageCount; p++) {
            int count = pages[p].closed ? malformedBytes(pages[p]) : fewest;
            if (count < fewest) {
                best = p;
                fewest = count;
            }
        }
        return answer(best);
    }

    public int lengths(int p, int what) {
        int finding = closedFinding(p);
        if (finding == 0 && (what < 0 || what > 1)) {
            finding = BEYOND;
        }
        if (finding != 0) {
            return answer(finding);
        }
        int best = writtenLength(pages[p], 0);
        for (int state = 1; best >= 0 && state < STATES; state++) {
            if (pages[p].isReached(state)) {
                int length = writtenLength(pages[p], state);
                best = what == 0 ? Math.min(best, length) : Math.max(best, length);
            }
        }
        return answer(best);
    }

    // ---- pages as bytes

    public int send(int p) {
        int finding = tableFinding(p);
        if (finding == 0 && !pages[p].closed) {
            finding = OPEN;
        }
        if (finding != 0) {
            return answer(finding);
        }
        work.clear();
        pages[p].entries.writeTo(work);
        pages[p].shifts.writeTo(work);
        work.addNumber(checkSum(work, work.count), 2);
        return keepWork(work.count, BYTES);
    }

    public int receive() {
        if (pageCount >= MOST_PAGES) {
            return answer(FULL);
        }
        int stop = bytes.count - 2;
        if (stop < 2 || bytes.numberAt(stop, 2) != checkSum(bytes, stop)) {
            return answer(SUM);
        }
        if (spare == null) {
            spare = new Page(TABLE);
        }
        Page made = spare;
        int at = made.entries.readFrom(bytes, 0, stop);
        if (at >= 0) {
            at = made.shifts.readFrom(bytes, at, stop);
        }
        if (at != stop || !made.isGood(unheard)) {
            return answer(BAD);
        }
        made.settle();
        spare = null;
        return addPage(made);
    }

    public int told(int what) {
        switch (what) {
            case 0:
                return place;
            case 1:
            case 2:
            case 3:
                return broken[what - 1];
            case 4:
                return pageCount;
            case 5:
                return bytes.count;
            case 6:
                return units.count;
            case 7:
                return result.count;
            case 8:
                return resultKind;
            case 9:
                return rules.count;
            case 10:
                return findings;
            default:
                return answer(BEYOND);
        }
    }

    // ---- what the calls share

    /** Every answer that may be a finding goes through here, so that told(10) misses none. */
    private int answer(int value) {
        if (value < 0) {
            findings++;
        }
        return value;
    }

    private static boolean isHalf(int unit) {
        return unit >= FIRST_HALF && unit <= LAST_HALF;
    }

    private static boolean isHighHalf(int unit) {
        return unit >= FIRST_HALF && unit < FIRST_LOW_HALF;
    }

    private static boolean isLowHalf(int unit) {
        return unit >= FIRST_LOW_HALF && unit <= LAST_HALF;
    }

    private static int joined(int high, int low) {
        return 0x10000 + (high - FIRST_HALF) * 1024 + (low - FIRST_LOW_HALF);
    }

    /** How many units of a point stand behind its first one. */
    private static int lowHalvesOf(int point) {
        return point < 0x10000 ? 0 : 1;
    }

    private static boolean isPoint(int value) {
        return value >= 0 && value <= LAST_POINT && !isHalf(value);
    }

    private static boolean isByte(int value) {
        return value >= 0 && value <= 0xFF;
    }

    private static boolean isState(int value) {
        return value >= 0 && value < STATES;
    }

    private static boolean isText(int state, int text, int length) {
        return isState(state) && length >= 1 && length <= MOST_TEXT
            && text >= 0 && text < 1 << (8 * length);
    }

    private static boolean isReadRule(int rule) {
        return rule >= REFUSE && rule <= KEEP;
    }

    private static boolean isWriteRule(int rule) {
        return rule >= REFUSE && rule <= FALLBACK;
    }

    private static boolean isMachine(int d) {
        return d >= 0 && d < MACHINES;
    }

    private boolean isPage(int p) {
        return p >= 0 && p < pageCount;
    }

    private int addPage(Page page) {
        int number = pageCount;
        pages[number] = page;
        pageCount++;
        return number;
    }

    private int tableFinding(int p) {
        if (!isPage(p)) {
            return BEYOND;
        }
        return pages[p].kind == TABLE ? 0 : KIND;
    }

    private int openTableFinding(int p) {
        int finding = tableFinding(p);
        if (finding == 0 && pages[p].closed) {
            return CLOSED;
        }
        return finding;
    }

    private int closedFinding(int p) {
        if (!isPage(p)) {
            return BEYOND;
        }
        return pages[p].closed ? 0 : OPEN;
    }

    private int bothClosedFinding(int p, int q) {
        if (!isPage(p) || !isPage(q)) {
            return BEYOND;
        }
        return pages[p].closed && pages[q].closed ? 0 : OPEN;
    }

    private int goingFinding(int d) {
        if (!isMachine(d)) {
            return BEYOND;
        }
        return machines[d].phase == Machine.GOES_ON ? 0 : NONE;
    }

    private static int emptied(Row row) {
        int before = row.count;
        row.clear();
        return before;
    }

    private int resultTo(Row row, int kind) {
        if (resultKind != kind) {
            return NONE;
        }
        if (result.count > MOST_INPUT) {
            return FULL;
        }
        row.clear();
        row.addAll(result);
        return row.count;
    }

    /** What was made is the result, unless the answer is a finding. */
    private int keepWork(int answer, int kind) {
        if (answer >= 0) {
            Row before = result;
            result = work;
            work = before;
            resultKind = kind;
        }
        return answer;
    }

    private int readAll(Page page, int rule, Row out) {
        out.clear();
        reader.open(page, rule);
        int at = 0;
        while (at < bytes.count) {
            int used = reader.step(bytes.values, at, bytes.count, true, out);
            if (used < 1) {
                place = at;
                return MALFORMED;
            }
            at += used;
        }
        return out.count;
    }

    private int malformedBytes(Page page) {
        readAll(page, DROP, work);
        return reader.malformed;
    }

    private int writeAll(Row from) {
        work.clear();
        for (int at = 0; at < from.count; at++) {
            int point = from.pointAt(at);
            if (!writer.write(point, from.values[at])) {
                place = at;
                return MISSING;
            }
            if (!work.addAll(writer.burst)) {
                return FULL;
            }
            at += lowHalvesOf(point);
        }
        writer.finish();
        return work.addAll(writer.burst) ? work.count : FULL;
    }

    /** Counts alone: what is written from another state may be longer than a result may be. */
    private int writtenLength(Page page, int state) {
        writer.open(page, REFUSE, state);
        int length = 0;
        for (int at = 0; at < units.count; at++) {
            int point = units.pointAt(at);
            if (!writer.write(point, units.values[at])) {
                place = at;
                return MISSING;
            }
            length += writer.burst.count;
            at += lowHalvesOf(point);
        }
        writer.finish();
        return length + writer.burst.count;
    }

    private boolean writtenApart(Page one, Page other, int point) {
        boolean oneHas = writeAlone(one, point, between);
        boolean otherHas = writeAlone(other, point, work);
        return oneHas != otherHas || !between.isSame(work);
    }

    private boolean writeAlone(Page page, int point, Row out) {
        out.clear();
        writer.open(page, REFUSE, 0);
        if (!writer.write(point, point)) {
            return false;
        }
        out.addAll(writer.burst);
        writer.finish();
        out.addAll(writer.burst);
        return true;
    }

    private int fedAnswer(Machine machine, int outcome) {
        if (outcome < 0) {
            place = machine.place;
        }
        return answer(outcome);
    }

    private boolean unitsAreParts() {
        between.clear();
        for (int at = 0; at < units.count; at++) {
            int point = units.pointAt(at);
            if (point == LONE || between.count >= MOST_PARTS) {
                return false;
            }
            between.add(point);
            at += lowHalvesOf(point);
        }
        return true;
    }

    private static int checkSum(Row row, int stop) {
        int sum = 0;
        for (int i = 0; i < stop && i < row.count; i++) {
            sum = (sum + (i + 1) * row.values[i]) % 65521;
        }
        return sum;
    }

    /** A row of numbers with a bound. */
    private static final class Row {
        final int[] values;
        int count;

        Row(int room) {
            values = new int[Math.max(room, 0)];
        }

        void clear() {
            count = 0;
        }

        boolean add(int value) {
            if (count >= values.length) {
                return false;
            }
            values[count] = value;
            count++;
            return true;
        }

        /** All of it or nothing. */
        boolean addAll(Row other) {
            if (other.count > values.length - count) {
                return false;
            }
            System.arraycopy(other.values, 0, values, count, other.count);
            count += other.count;
            return true;
        }

        void addNumber(int number, int length) {
            for (int left = length - 1; left >= 0 && count < values.length; left--) {
                values[count] = (number >>> (8 * left)) & 0xFF;
                count++;
            }
        }

        void addPoint(int point) {
            if (point < 0x10000) {
                add(point);
            } else {
                add(FIRST_HALF + (point - 0x10000) / 1024);
                add(FIRST_LOW_HALF + (point - 0x10000) % 1024);
            }
        }

        int numberAt(int at, int length) {
            return at >= 0 && length <= count - at ? packed(values, at, length) : -1;
        }

        static int packed(int[] row, int at, int length) {
            int number = 0;
            for (int i = at; i < at + length && i < row.length; i++) {
                number = number << 8 | row[i];
            }
            return number;
        }

        /** The point whose units stand there, or LONE. */
        int pointAt(int at) {
            if (at < 0 || at >= count) {
                return LONE;
            }
            int unit = values[at];
            if (!isHalf(unit)) {
                return unit;
            }
            boolean pair = isHighHalf(unit) && at + 1 < count && isLowHalf(values[at + 1]);
            return pair ? joined(unit, values[at + 1]) : LONE;
        }

        boolean isSame(Row other) {
            if (count != other.count) {
                return false;
            }
            for (int i = 0; i < count; i++) {
                if (values[i] != other.values[i]) {
                    return false;
                }
            }
            return true;
        }
    }

    /** The entries of a table, by number. */
    private static final class Entries {
        final int[] states;
        final int[] texts;
        final int[] lengths;
        final int[] points;
        final boolean[] preferred;
        int count;

        Entries(int room) {
            int most = Math.max(room, 0);
            states = new int[most];
            texts = new int[most];
            lengths = new int[most];
            points = new int[most];
            preferred = new boolean[most];
        }

        int slotOf(int state, int text, int length) {
            for (int i = 0; i < count; i++) {
                if (states[i] == state && texts[i] == text && lengths[i] == length) {
                    return i;
                }
            }
            return -1;
        }

        void put(int slot, int state, int text, int length, int point, boolean isPreferred) {
            if (slot < 0 || slot > count || slot >= states.length) {
                return;
            }
            states[slot] = state;
            texts[slot] = text;
            lengths[slot] = length;
            points[slot] = point;
            preferred[slot] = isPreferred;
            count = Math.max(count, slot + 1);
        }

        void removeAt(int slot) {
            if (slot < 0 || slot >= count) {
                return;
            }
            for (int i = slot; i + 1 < count; i++) {
                put(i, states[i + 1], texts[i + 1], lengths[i + 1], points[i + 1], preferred[i + 1]);
            }
            count--;
        }

        void copyFrom(Entries other) {
            count = 0;
            for (int i = 0; i < other.count; i++) {
                put(i, other.states[i], other.texts[i], other.lengths[i], other.points[i],
                    other.preferred[i]);
            }
        }

        int preferredOf(int point) {
            int many = 0;
            for (int i = 0; i < count; i++) {
                if (points[i] == point && preferred[i]) {
                    many++;
                }
            }
            return many;
        }

        void writeTo(Row out) {
            out.add(count);
            for (int i = 0; i < count; i++) {
                out.add(states[i]);
                out.add(lengths[i]);
                out.addNumber(texts[i], lengths[i]);
                out.addNumber(points[i], 3);
                out.add(preferred[i] ? 1 : 0);
            }
        }

        /** Reads what writeTo() wrote: the place behind it, or -1 when it is none. */
        int readFrom(Row in, int from, int stop) {
            count = 0;
            if (from >= stop || in.values[from] > MOST_ENTRIES) {
                return -1;
            }
            int many = in.values[from];
            int at = from + 1;
            for (int i = 0; i < many; i++) {
                int length = at + 1 < stop ? in.values[at + 1] : 0;
                if (length < 1 || length > MOST_TEXT || at + length + 6 > stop) {
                    return -1;
                }
                int state = in.values[at];
                int text = in.numberAt(at + 2, length);
                int point = in.numberAt(at + 2 + length, 3);
                int isPreferred = in.values[at + 5 + length];
                if (!isState(state) || !isPoint(point) || isPreferred > 1
                        || slotOf(state, text, length) >= 0) {
                    return -1;
                }
                put(i, state, text, length, point, isPreferred == 1);
                at += length + 6;
            }
            return at;
        }
    }

    /** The shifts of a table, by number. */
    private static final class Shifts {
        final int[] states;
        final int[] values;
        final int[] goals;
        final boolean[] sticky;
        int count;

        Shifts(int room) {
            int most = Math.max(room, 0);
            states = new int[most];
            values = new int[most];
            goals = new int[most];
            sticky = new boolean[most];
        }

        int slotOf(int state, int value) {
            for (int i = 0; i < count; i++) {
                if (states[i] == state && values[i] == value) {
                    return i;
                }
            }
            return -1;
        }

        void add(int state, int value, int goal, boolean isSticky) {
            if (count >= states.length) {
                return;
            }
            states[count] = state;
            values[count] = value;
            goals[count] = goal;
            sticky[count] = isSticky;
            count++;
        }

        void removeAt(int slot) {
            if (slot < 0 || slot >= count) {
                return;
            }
            for (int i = slot; i + 1 < count; i++) {
                states[i] = states[i + 1];
                values[i] = values[i + 1];
                goals[i] = goals[i + 1];
                sticky[i] = sticky[i + 1];
            }
            count--;
        }

        void copyFrom(Shifts other) {
            count = 0;
            for (int i = 0; i < other.count; i++) {
                add(other.states[i], other.values[i], other.goals[i], other.sticky[i]);
            }
        }

        /** A set of states, a bit each: 0 and all that sticky shifts lead to from it. */
        int reachedStates() {
            int reached = 1;
            for (int round = 1; round < STATES; round++) {
                for (int i = 0; i < count; i++) {
                    if (sticky[i] && (reached >> states[i] & 1) == 1) {
                        reached |= 1 << goals[i];
                    }
                }
            }
            return reached;
        }

        /** A set of states, a bit each: those that sticky shifts lead to state 0 from. */
        int homingStates() {
            int homing = 1;
            for (int round = 1; round < STATES; round++) {
                for (int i = 0; i < count; i++) {
                    if (sticky[i] && (homing >> goals[i] & 1) == 1) {
                        homing |= 1 << states[i];
                    }
                }
            }
            return homing;
        }

        /** A set of states, a bit each: the goals of single shifts of the states of a set. */
        int singleGoals(int from) {
            int found = 0;
            for (int i = 0; i < count; i++) {
                if (!sticky[i] && (from >> states[i] & 1) == 1) {
                    found |= 1 << goals[i];
                }
            }
            return found;
        }

        void writeTo(Row out) {
            out.add(count);
            for (int i = 0; i < count; i++) {
                out.add(states[i]);
                out.add(values[i]);
                out.add(goals[i]);
                out.add(sticky[i] ? 1 : 0);
            }
        }

        /** Reads what writeTo() wrote: the place behind it, or -1 when it is none. */
        int readFrom(Row in, int from, int stop) {
            count = 0;
            if (from >= stop || in.values[from] > MOST_SHIFTS) {
                return -1;
            }
            int many = in.values[from];
            int at = from + 1;
            if (at + 4 * many > stop) {
                return -1;
            }
            for (int i = 0; i < many; i++) {
                int state = in.values[at];
                int value = in.values[at + 1];
                int goal = in.values[at + 2];
                int isSticky = in.values[at + 3];
                if (!isState(state) || !isState(goal) || state == goal || isSticky > 1
                        || slotOf(state, value) >= 0) {
                    return -1;
                }
                add(state, value, goal, isSticky == 1);
                at += 4;
            }
            return at;
        }
    }

    /**
     * The shifts that writing uses from each state to each goal. They are found once, when a page
     * is closed, because every point that is written asks for them.
     */
    private static final class Routes {
        /** The goal of THE END: state 0, by sticky shifts alone. */
        static final int HOME = STATES;
        private static final int FAR = 100;

        final int[] texts = new int[(STATES + 1) * STATES];
        final int[] lengths = new int[(STATES + 1) * STATES];
        final int[] after = new int[(STATES + 1) * STATES];
        private final int[] steps = new int[STATES];

        static int slotOf(int goal, int from) {
            return goal * STATES + from;
        }

        void plan(Shifts shifts) {
            for (int goal = 0; goal <= HOME; goal++) {
                measure(shifts, goal);
                for (int from = 0; from < STATES; from++) {
                    walk(shifts, goal, from);
                }
            }
        }

        private static int stateOf(int goal) {
            return goal == HOME ? 0 : goal;
        }

        /** How many shifts the way by one shift has; a single one can only be the last. */
        private int stepsBy(Shifts shifts, int i, int goal) {
            if (shifts.sticky[i]) {
                return 1 + steps[shifts.goals[i]];
            }
            return goal != HOME && shifts.goals[i] == goal ? 1 : FAR;
        }

        private void measure(Shifts shifts, int goal) {
            Arrays.fill(steps, FAR);
            steps[stateOf(goal)] = 0;
            for (int round = 1; round < STATES; round++) {
                for (int i = 0; i < shifts.count; i++) {
                    int state = shifts.states[i];
                    steps[state] = Math.min(steps[state], stepsBy(shifts, i, goal));
                }
            }
        }

        private void walk(Shifts shifts, int goal, int from) {
            int slot = slotOf(goal, from);
            texts[slot] = 0;
            lengths[slot] = 0;
            int state = from;
            int left = steps[from];
            while (left > 0 && left < FAR) {
                int best = leastShift(shifts, goal, state, left);
                if (best < 0) {
                    break;
                }
                texts[slot] = texts[slot] << 8 | shifts.values[best];
                lengths[slot]++;
                if (shifts.sticky[best]) {
                    state = shifts.goals[best];
                }
                left--;
            }
            after[slot] = state;
        }

        /** By rule 1 the shifts of a state have different bytes, so the least one is alone. */
        private int leastShift(Shifts shifts, int goal, int state, int left) {
            int best = -1;
            for (int i = 0; i < shifts.count; i++) {
                if (shifts.states[i] == state && stepsBy(shifts, i, goal) == left
                        && (best < 0 || shifts.values[i] < shifts.values[best])) {
                    best = i;
                }
            }
            return best;
        }
    }

    /** What stands at a place of a row of bytes. */
    private static final class Found {
        static final int NO_TEXT = 0;
        static final int PART = 1;
        static final int WHOLE = 2;
        static final int SHIFT = 3;

        int what;
        int length;
        int point;
        int goal;
        boolean sticky;

        void setNone() {
            what = NO_TEXT;
        }

        /** The bytes end within a longer text. */
        void setPart() {
            what = PART;
        }

        void setWhole(int newPoint, int newLength) {
            what = WHOLE;
            point = newPoint;
            length = newLength;
        }

        void setShift(int newGoal, boolean isSticky) {
            what = SHIFT;
            goal = newGoal;
            sticky = isSticky;
            length = 1;
        }
    }

    /** The built-in forms: reckoned, not held. */
    private static final class Forms {
        static long textOf(int kind, int point) {
            if (kind == FEW) {
                return fewText(point);
            }
            if (point < 0x10000) {
                return 2L << 32 | unitText(kind, point);
            }
            long first = unitText(kind, FIRST_HALF + (point - 0x10000) / 1024);
            long second = unitText(kind, FIRST_LOW_HALF + (point - 0x10000) % 1024);
            return 4L << 32 | first << 16 | second;
        }

        private static int unitText(int kind, int unit) {
            return kind == HIGH ? unit : (unit & 0xFF) << 8 | unit >> 8;
        }

        private static long fewText(int point) {
            if (point < 0x80) {
                return 1L << 32 | point;
            }
            int last = 0x80 | point & 0x3F;
            int middle = 0x80 | point >> 6 & 0x3F;
            if (point < 0x800) {
                return 2L << 32 | (0xC0 | point >> 6) << 8 | last;
            }
            if (point < 0x10000) {
                return 3L << 32 | (0xE0 | point >> 12) << 16 | middle << 8 | last;
            }
            int second = 0x80 | point >> 12 & 0x3F;
            long lead = 0xF0 | point >> 18;
            return 4L << 32 | lead << 24 | second << 16 | middle << 8 | last;
        }

        static void findUnits(boolean highFirst, int[] row, int at, int stop, Found found) {
            if (at + 1 >= stop) {
                // The high byte alone tells already that no point begins with a low half.
                if (highFirst && isLowHalf(row[at] << 8)) {
                    found.setNone();
                } else {
                    found.setPart();
                }
                return;
            }
            int unit = unitAt(highFirst, row, at);
            if (isHighHalf(unit)) {
                findLowHalf(highFirst, row, at, stop, found);
            } else if (isHalf(unit)) {
                found.setNone();
            } else {
                found.setWhole(unit, 2);
            }
        }

        private static void findLowHalf(boolean highFirst, int[] row, int at, int stop, Found found) {
            int there = stop - at - 2;
            boolean whole = there >= 2;
            boolean may = there < 1 || !highFirst || isLowHalf(row[at + 2] << 8);
            if (whole) {
                may = isLowHalf(unitAt(highFirst, row, at + 2));
            }
            if (!may) {
                found.setNone();
            } else if (whole) {
                int high = unitAt(highFirst, row, at);
                found.setWhole(joined(high, unitAt(highFirst, row, at + 2)), 4);
            } else {
                found.setPart();
            }
        }

        private static int unitAt(boolean highFirst, int[] row, int at) {
            return highFirst ? row[at] << 8 | row[at + 1] : row[at + 1] << 8 | row[at];
        }

        static void findFew(int[] row, int at, int stop, Found found) {
            int length = fewLength(row[at]);
            int there = Math.min(length, stop - at);
            int bits = length == 1 ? row[at] : row[at] & 0x7F >> length;
            boolean may = length > 0;
            for (int i = 1; i < there; i++) {
                may = may && (row[at + i] & 0xC0) == 0x80;
                bits = bits << 6 | row[at + i] & 0x3F;
            }
            int open = 6 * (length - there);
            if (!may || !holdsPoint(bits << open, (bits + 1 << open) - 1, length)) {
                found.setNone();
            } else if (there == length) {
                found.setWhole(bits, length);
            } else {
                found.setPart();
            }
        }

        private static int fewLength(int lead) {
            if (lead < 0x80) {
                return 1;
            }
            if (lead < 0xC0 || lead >= 0xF8) {
                return 0;
            }
            if (lead < 0xE0) {
                return 2;
            }
            return lead < 0xF0 ? 3 : 4;
        }

        /** Whether some point between two ends has a text of that length. */
        private static boolean holdsPoint(int least, int most, int length) {
            int first = 0;
            if (length > 1) {
                first = length == 2 ? 0x80 : length == 3 ? 0x800 : 0x10000;
            }
            return most >= first && least <= LAST_POINT && !(isHalf(least) && isHalf(most));
        }
    }

    /** A code page: a table that is open or closed, or a built-in form. */
    private static final class Page {
        /** Where the numbers of shifts begin, behind those of entries. */
        private static final int SHIFTS_FROM = MOST_ENTRIES;
        private static final int BEYOND_ALL = LAST_POINT + 1;

        final int kind;
        boolean closed;
        final Entries entries;
        final Shifts shifts;
        final Routes routes = new Routes();
        /** By state and first byte: one more than the number of an item; nexts goes on from it. */
        private final int[] heads;
        private final int[] nexts;
        /** The preferred entries, the least point first. */
        private final int[] order;
        private int ordered;
        private int reached = 1;

        Page(int kind) {
            this.kind = kind;
            boolean table = kind == TABLE;
            closed = !table;
            entries = new Entries(table ? MOST_ENTRIES : 0);
            shifts = new Shifts(table ? MOST_SHIFTS : 0);
            heads = new int[table ? STATES * 256 : 0];
            nexts = new int[table ? MOST_ENTRIES + MOST_SHIFTS : 0];
            order = new int[table ? MOST_ENTRIES : 0];
        }

        /** Whether the table is good; if not, the first broken rule and where it is broken. */
        boolean isGood(int[] why) {
            return !clashes(why) && !isUnsure(why) && !isStuck(why) && !isCutOff(why);
        }

        private static boolean note(int[] why, int rule, int first, int second) {
            if (why.length >= 3) {
                why[0] = rule;
                why[1] = first;
                why[2] = second;
            }
            return true;
        }

        private boolean clashes(int[] why) {
            int items = entries.count + shifts.count;
            for (int i = 0; i < items; i++) {
                for (int k = i + 1; k < items; k++) {
                    if (clash(i, k)) {
                        return note(why, 1, numberOf(i), numberOf(k));
                    }
                }
            }
            return false;
        }

        private int numberOf(int item) {
            return item < entries.count ? item : SHIFTS_FROM + item - entries.count;
        }

        private int stateOf(int item) {
            return item < entries.count ? entries.states[item] : shifts.states[item - entries.count];
        }

        private int textOf(int item) {
            return item < entries.count ? entries.texts[item] : shifts.values[item - entries.count];
        }

        private int lengthOf(int item) {
            return item < entries.count ? entries.lengths[item] : 1;
        }

        private boolean clash(int i, int k) {
            if (stateOf(i) != stateOf(k)) {
                return false;
            }
            int shared = Math.min(lengthOf(i), lengthOf(k));
            return textOf(i) >> 8 * (lengthOf(i) - shared) == textOf(k) >> 8 * (lengthOf(k) - shared);
        }

        private boolean isUnsure(int[] why) {
            int least = BEYOND_ALL;
            for (int i = 0; i < entries.count; i++) {
                if (entries.points[i] < least && entries.preferredOf(entries.points[i]) != 1) {
                    least = entries.points[i];
                }
            }
            return least < BEYOND_ALL && note(why, 2, least, 0);
        }

        private boolean isStuck(int[] why) {
            int stuck = shifts.reachedStates() & ~shifts.homingStates();
            for (int state = 0; state < STATES; state++) {
                if ((stuck >> state & 1) == 1) {
                    return note(why, 3, state, 0);
                }
            }
            return false;
        }

        private boolean isCutOff(int[] why) {
            int all = shifts.reachedStates();
            int written = all | shifts.singleGoals(all);
            for (int i = 0; i < entries.count; i++) {
                if (entries.preferred[i] && (written >> entries.states[i] & 1) == 0) {
                    return note(why, 4, i, 0);
                }
            }
            return false;
        }

        /** Closes a good table: it changes no more, so what is looked up often is ordered now. */
        void settle() {
            closed = true;
            reached = shifts.reachedStates();
            routes.plan(shifts);
            Arrays.fill(heads, 0);
            for (int i = 0; i < entries.count; i++) {
                int first = entries.texts[i] >> 8 * (entries.lengths[i] - 1);
                chain(entries.states[i], first, i);
            }
            for (int i = 0; i < shifts.count; i++) {
                chain(shifts.states[i], shifts.values[i], SHIFTS_FROM + i);
            }
            ordered = 0;
            for (int i = 0; i < entries.count; i++) {
                if (entries.preferred[i]) {
                    sortIn(i);
                }
            }
        }

        private void chain(int state, int first, int item) {
            int head = state * 256 + first;
            if (head >= 0 && head < heads.length && item < nexts.length) {
                nexts[item] = heads[head];
                heads[head] = item + 1;
            }
        }

        private void sortIn(int slot) {
            int at = ordered;
            while (at > 0 && entries.points[order[at - 1]] > entries.points[slot]) {
                order[at] = order[at - 1];
                at--;
            }
            order[at] = slot;
            ordered++;
        }

        boolean isReached(int state) {
            return (reached >> state & 1) == 1;
        }

        /** Where in the order the first point stands that is not below one. */
        private int placeFrom(int point) {
            int low = 0;
            int high = ordered;
            while (low < high) {
                int middle = (low + high) / 2;
                if (entries.points[order[middle]] < point) {
                    low = middle + 1;
                } else {
                    high = middle;
                }
            }
            return low;
        }

        /** The preferred entry of a point, or -1; 0 by a built-in form, which has one of each. */
        int slotOf(int point) {
            if (kind != TABLE) {
                return 0;
            }
            int at = placeFrom(point);
            boolean has = at < ordered && entries.points[order[at]] == point;
            return has ? order[at] : -1;
        }

        long textAt(int slot) {
            if (slot < 0 || slot >= entries.count) {
                return 0;
            }
            return (long) entries.lengths[slot] << 32 | entries.texts[slot];
        }

        int stateAt(int slot) {
            return slot >= 0 && slot < entries.count ? entries.states[slot] : 0;
        }

        /** The first point with an entry from a number on, or BEYOND_ALL. */
        int pointFrom(int from) {
            if (kind == TABLE) {
                int at = placeFrom(from);
                return at < ordered ? entries.points[order[at]] : BEYOND_ALL;
            }
            return isHalf(from) ? LAST_HALF + 1 : Math.min(from, BEYOND_ALL);
        }

        int pointsWithin(int from, int to) {
            if (kind == TABLE) {
                return placeFrom(to + 1) - placeFrom(from);
            }
            int halves = Math.min(to, LAST_HALF) - Math.max(from, FIRST_HALF) + 1;
            return to - from + 1 - Math.max(halves, 0);
        }

        /** What stands at a place, ahead of stop, in a state, with or without its shifts. */
        void find(int state, boolean withShifts, int[] row, int at, int stop, Found found) {
            if (at < 0 || at >= stop || stop > row.length) {
                found.setNone();
                return;
            }
            switch (kind) {
                case HIGH:
                    Forms.findUnits(true, row, at, stop, found);
                    break;
                case LOW:
                    Forms.findUnits(false, row, at, stop, found);
                    break;
                case FEW:
                    Forms.findFew(row, at, stop, found);
                    break;
                default:
                    findItem(state, withShifts, row, at, stop, found);
                    break;
            }
        }

        private void findItem(int state, boolean withShifts, int[] row, int at, int stop, Found found) {
            found.setNone();
            int head = state * 256 + row[at];
            int item = head >= 0 && head < heads.length ? heads[head] - 1 : -1;
            for (int i = 0; item >= 0 && i < nexts.length; i++) {
                if (item < SHIFTS_FROM) {
                    tryEntry(item, row, at, stop, found);
                } else if (withShifts) {
                    int slot = item - SHIFTS_FROM;
                    found.setShift(shifts.goals[slot], shifts.sticky[slot]);
                }
                if (found.what >= Found.WHOLE) {
                    return;
                }
                item = nexts[item] - 1;
            }
        }

        private void tryEntry(int slot, int[] row, int at, int stop, Found found) {
            int length = entries.lengths[slot];
            int there = Math.min(length, stop - at);
            if (entries.texts[slot] >> 8 * (length - there) != Row.packed(row, at, there)) {
                return;
            }
            if (there == length) {
                found.setWhole(entries.points[slot], length);
            } else {
                found.setPart();
            }
        }
    }

    /** The signs and the fallbacks. */
    private static final class Rules {
        /** Where a fallback stands while it is looked at. */
        private static final int STAGED = MOST_FALLBACKS;

        int readSign = 0xFFFD;
        int writeSign = 63;
        int count;
        private final int[] points = new int[MOST_FALLBACKS + 1];
        private final int[] lengths = new int[MOST_FALLBACKS + 1];
        private final int[] parts = new int[(MOST_FALLBACKS + 1) * MOST_PARTS];
        private final int[] wholes = new int[MOST_FALLBACKS + 1];

        private int slotOf(int point) {
            for (int i = 0; i < count; i++) {
                if (points[i] == point) {
                    return i;
                }
            }
            return -1;
        }

        /** A row of points is the fallback of a point then, or none when it is empty: 0. */
        int replace(int point, Row row) {
            int slot = slotOf(point);
            if (row.count == 0) {
                remove(slot);
                return 0;
            }
            if (slot < 0 && count >= MOST_FALLBACKS) {
                return FULL;
            }
            stage(point, row);
            int finding = stagedFinding(slot);
            if (finding != 0) {
                return finding;
            }
            if (slot < 0) {
                slot = count;
                count++;
            }
            copy(STAGED, slot);
            return 0;
        }

        private void remove(int slot) {
            if (slot >= 0) {
                count--;
                copy(count, slot);
            }
        }

        private void stage(int point, Row row) {
            points[STAGED] = point;
            lengths[STAGED] = Math.min(row.count, MOST_PARTS);
            for (int i = 0; i < lengths[STAGED]; i++) {
                parts[STAGED * MOST_PARTS + i] = row.values[i];
            }
        }

        private void copy(int from, int to) {
            points[to] = points[from];
            lengths[to] = lengths[from];
            System.arraycopy(parts, from * MOST_PARTS, parts, to * MOST_PARTS, MOST_PARTS);
        }

        /**
         * Measures whole texts, each as soon as those of its parts are known: what is never known
         * is a loop. The fallback that the staged one would replace is hidden.
         */
        private int stagedFinding(int hidden) {
            Arrays.fill(wholes, 0);
            boolean more = true;
            for (int round = 0; more && round <= MOST_FALLBACKS + 1; round++) {
                more = false;
                for (int slot = 0; slot <= STAGED; slot++) {
                    if (stands(slot, hidden) && wholes[slot] == 0) {
                        wholes[slot] = wholeOf(slot);
                        more = more || wholes[slot] > 0;
                    }
                }
            }
            int finding = 0;
            for (int slot = 0; slot <= STAGED; slot++) {
                if (stands(slot, hidden) && wholes[slot] == 0) {
                    return LOOP;
                }
                if (stands(slot, hidden) && wholes[slot] > MOST_WHOLE) {
                    finding = LONG;
                }
            }
            return finding;
        }

        private boolean stands(int slot, int hidden) {
            return slot == STAGED || (slot < count && slot != hidden);
        }

        /** How many points the whole text has, 17 for all that are too many; 0: not known yet. */
        private int wholeOf(int slot) {
            int sum = 0;
            for (int i = 0; i < lengths[slot]; i++) {
                int part = parts[slot * MOST_PARTS + i];
                int by = part == points[STAGED] ? STAGED : slotOf(part);
                if (by >= 0 && wholes[by] == 0) {
                    return 0;
                }
                sum += by >= 0 ? wholes[by] : 1;
            }
            return Math.min(sum, MOST_WHOLE + 1);
        }

        /** The parts of a point's fallback come to a stack, the first on top: false, it has none. */
        boolean pushParts(int point, Row stack) {
            int slot = slotOf(point);
            if (slot < 0) {
                return false;
            }
            boolean fits = true;
            for (int i = lengths[slot] - 1; i >= 0; i--) {
                fits = fits && stack.add(parts[slot * MOST_PARTS + i]);
            }
            return fits;
        }
    }

    /** Reading by a page, one text or malformed byte at a time. */
    private static final class Reader {
        private final Rules rules;
        private final Found found = new Found();
        private Page page;
        private int rule;
        int state;
        int pending = NOTHING;
        int malformed;

        Reader(Rules rules, Page page) {
            this.rules = rules;
            this.page = page;
        }

        void open(Page newPage, int newRule) {
            page = newPage;
            rule = newRule;
            state = 0;
            pending = NOTHING;
            malformed = 0;
        }

        /** How many bytes were used; 0 when more must come first (never at the last); MALFORMED. */
        int step(int[] row, int at, int stop, boolean last, Row out) {
            boolean free = pending == NOTHING;
            page.find(free ? state : pending, free, row, at, stop, found);
            if (found.what == Found.PART && !last) {
                return 0;
            }
            pending = NOTHING;
            if (found.what == Found.WHOLE) {
                out.addPoint(found.point);
                return found.length;
            }
            if (found.what == Found.SHIFT) {
                if (found.sticky) {
                    state = found.goal;
                } else {
                    pending = found.goal;
                }
                return found.length;
            }
            return passOver(at >= 0 && at < row.length ? row[at] : 0, out);
        }

        private int passOver(int value, Row out) {
            malformed++;
            switch (rule) {
                case SIGN:
                    out.addPoint(rules.readSign);
                    return 1;
                case DROP:
                    return 1;
                case KEEP:
                    out.add(FIRST_LOW_HALF + value);
                    return 1;
                default:
                    return MALFORMED;
            }
        }
    }

    /** Writing by a page, one point or lone half at a time, each to a burst of bytes. */
    private static final class Writer {
        /** A whole text has 16 points at most, each at the end of at most 40 fallbacks. */
        private static final int MOST_STEPS = 1000;

        private final Rules rules;
        final Row burst = new Row(MOST_BURST);
        private final Row due = new Row(MOST_WHOLE + MOST_PARTS);
        private Page page;
        private int rule;
        int state;

        Writer(Rules rules, Page page) {
            this.rules = rules;
            this.page = page;
        }

        void open(Page newPage, int newRule, int newState) {
            page = newPage;
            rule = newRule;
            state = newState;
            burst.clear();
        }

        /** Writes a point, or, when it is LONE, a unit; false when that is refused. */
        boolean write(int point, int unit) {
            burst.clear();
            if (point != LONE && put(point)) {
                return true;
            }
            switch (rule) {
                case SIGN:
                    put(rules.writeSign);
                    return true;
                case DROP:
                    return true;
                case KEEP:
                    return point == LONE && unit >= FIRST_LOW_HALF && unit <= FIRST_LOW_HALF + 0xFF
                        && burst.add(unit - FIRST_LOW_HALF);
                case FALLBACK:
                    return point != LONE && spell(point);
                default:
                    return false;
            }
        }

        void finish() {
            burst.clear();
            shiftTo(Routes.HOME);
        }

        private boolean put(int point) {
            int slot = page.slotOf(point);
            if (slot < 0) {
                return false;
            }
            shiftTo(page.stateAt(slot));
            long text = page.kind == TABLE ? page.textAt(slot) : Forms.textOf(page.kind, point);
            burst.addNumber((int) text, (int) (text >> 32));
            return true;
        }

        private void shiftTo(int goal) {
            int route = Routes.slotOf(goal, state);
            burst.addNumber(page.routes.texts[route], page.routes.lengths[route]);
            state = page.routes.after[route];
        }

        /** Refused whole: what was written of a fallback goes when one of its points is missing. */
        private boolean spell(int point) {
            int before = state;
            due.clear();
            boolean goesOn = rules.pushParts(point, due);
            for (int i = 0; goesOn && due.count > 0 && i < MOST_STEPS; i++) {
                due.count--;
                int part = due.values[due.count];
                goesOn = put(part) || rules.pushParts(part, due);
            }
            if (goesOn && due.count == 0) {
                return true;
            }
            burst.clear();
            state = before;
            return false;
        }
    }

    /** Reads or writes what is fed to it one by one. */
    private static final class Machine {
        static final int NEW = -1;
        static final int GOES_ON = 0;
        static final int ENDED = 1;
        static final int OVER = 2;
        private static final int MOST_KEPT = 4;
        private static final int ROOM = MOST_WAITING + 1 + MOST_BURST;

        final Reader reader;
        final Writer writer;
        boolean writes;
        int phase = NEW;
        private final int[] kept = new int[MOST_KEPT];
        int keeps;
        private int fed;
        int place;
        private final Row burst = new Row(MOST_BURST);
        /** A ring: takeFirst() moves its beginning, not what stands in it. */
        private final int[] ring = new int[ROOM];
        private int first;
        int waiting;

        Machine(Rules rules, Page page) {
            reader = new Reader(rules, page);
            writer = new Writer(rules, page);
        }

        void start(Page page, boolean isWriting, int rule) {
            reader.open(page, rule);
            writer.open(page, rule, 0);
            writes = isWriting;
            phase = GOES_ON;
            keeps = 0;
            fed = 0;
            first = 0;
            waiting = 0;
        }

        int takeFirst() {
            int value = ring[first];
            first = (first + 1) % ROOM;
            waiting--;
            return value;
        }

        private void pour(Row row) {
            for (int i = 0; i < row.count && waiting < ROOM; i++) {
                ring[(first + waiting) % ROOM] = row.values[i];
                waiting++;
            }
        }

        private int stopAt(int where, int finding) {
            place = where;
            phase = OVER;
            keeps = 0;
            return finding;
        }

        int acceptByte(int value) {
            if (keeps < MOST_KEPT) {
                kept[keeps] = value;
                keeps++;
            }
            fed++;
            return readKept(false);
        }

        int endBytes() {
            int outcome = readKept(true);
            if (outcome >= 0) {
                phase = ENDED;
                reader.pending = NOTHING;
            }
            return outcome;
        }

        private int readKept(boolean last) {
            burst.clear();
            int used = 1;
            while (keeps > 0 && used > 0) {
                used = reader.step(kept, 0, keeps, last, burst);
                if (used > 0) {
                    keeps -= used;
                    System.arraycopy(kept, used, kept, 0, keeps);
                }
            }
            pour(burst);
            return used < 0 ? stopAt(fed - keeps, MALFORMED) : waiting;
        }

        int acceptUnit(int unit) {
            fed++;
            if (keeps > 0) {
                keeps = 0;
                if (isLowHalf(unit)) {
                    return writeOut(joined(kept[0], unit), unit, fed - 2);
                }
                if (writeOut(LONE, kept[0], fed - 2) < 0) {
                    return MISSING;
                }
            }
            if (isHighHalf(unit)) {
                kept[0] = unit;
                keeps = 1;
                return waiting;
            }
            return writeOut(isHalf(unit) ? LONE : unit, unit, fed - 1);
        }

        int endUnits() {
            if (keeps > 0 && writeOut(LONE, kept[0], fed - 1) < 0) {
                return MISSING;
            }
            keeps = 0;
            writer.finish();
            pour(writer.burst);
            phase = ENDED;
            return waiting;
        }

        private int writeOut(int point, int unit, int where) {
            if (!writer.write(point, unit)) {
                return stopAt(where, MISSING);
            }
            pour(writer.burst);
            return waiting;
        }
    }
}
