import java.util.ArrayDeque;
import java.util.Random;

/** Random runs of calls, each answer held against PlainExchange. The seeds are fixed. */
public final class ModelTest {
  private static final int[] BYTES = {0x0E, 0x0F, 0x1B, 0x41, 0x42, 0x43, 0x61, 0x81, 0x82, 0xC3, 0xA9,
      0xE2, 0x82, 0xAC, 0xF0, 0x9F, 0x98, 0x80, 0xD8, 0xDC, 0x00, 0xFF, 0xED, 0xF4, 0x90, 0xC0, 0xE0,
      0xF5, 0xF8, 0xBF};
  private static final int[] POINTS = {0, 0x41, 0x42, 0x43, 0x61, 0x62, 0x63, 63, 0x7F, 0x80, 0xE9, 0x7FF,
      0x800, 0x20AC, 0xD7FF, 0xE000, 0xFFFD, 0xFFFE, 0xFFFF, 0x10000, 0x1F600, 0x10FFFF};
  private static final int[] UNITS = {0x41, 0x42, 0x61, 0x63, 0xE9, 0x20AC, 0xD83D, 0xDE00, 0xD800, 0xDBFF,
      0xDC00, 0xDC41, 0xDCFF, 0xDD00, 0xDFFF, 0xFFFD, 0};
  private static final int[] ODD = {Integer.MIN_VALUE, -2, -1, 4, 5, 9, 10, 11, 256, 65536, 0x110000, 0xD800,
      0xDFFF, Integer.MAX_VALUE};
  private static final int CALLS = 512;

  private static int wrong = 0;
  private static final int[] seen = new int[14];

  private final Random random;
  private final long seed;
  private final CodeExchange x = new CodeExchange();
  private final PlainExchange m = new PlainExchange();
  private final ArrayDeque<String> log = new ArrayDeque<>();
  private int calls = 0;
  private boolean failed = false;

  private ModelTest(long seed) {
    this.seed = seed;
    random = new Random(seed);
  }

  private long same(String call, long got, long want) {
    calls++;
    if (calls > CALLS) {
      // What an object answers behind its 512th call is free.
      return want;
    }
    log.add(call + " = " + want);
    if (want < 0) {
      seen[(int) -want]++;
    }
    if (got != want && !failed) {
      failed = true;
      wrong++;
      System.out.println("seed " + seed + ": " + call + " answered " + got + ", due is " + want);
      if (wrong < 3) {
        for (String line : log) {
          System.out.println("    " + line);
        }
      }
    }
    return want;
  }

  private int roll(int n) {
    return random.nextInt(n);
  }

  private int of(int[] pool) {
    return pool[roll(pool.length)];
  }

  /** Mostly within 0 .. n-1, now and then odd. */
  private int near(int n) {
    return roll(12) == 0 ? of(ODD) : roll(Math.max(n, 1));
  }

  private int aPoint() {
    int dice = roll(20);
    if (dice == 0) {
      return of(ODD);
    }
    if (dice == 1) {
      return roll(0x110000);
    }
    return of(POINTS);
  }

  private int aPage() {
    return near(m.sheets.size());
  }

  private int closedPage() {
    if (roll(10) > 0) {
      for (int tries = 0; tries < 20; tries++) {
        int p = roll(Math.max(1, m.sheets.size()));
        if (p < m.sheets.size() && m.sheets.get(p).closed) {
          return p;
        }
      }
    }
    return aPage();
  }

  // ---- the calls

  private int page(int kind) {
    return (int) same("page(" + kind + ")", x.page(kind), m.page(kind));
  }

  private int derive(int q) {
    return (int) same("derive(" + q + ")", x.derive(q), m.derive(q));
  }

  private int entry(int p, int state, int bytes, int n, int code) {
    return (int) same("entry(" + p + ", " + state + ", " + bytes + ", " + n + ", " + code + ")",
        x.entry(p, state, bytes, n, code), m.entry(p, state, bytes, n, code));
  }

  private int shift(int p, int state, int b, int to, boolean sticky) {
    return (int) same("shift(" + p + ", " + state + ", " + b + ", " + to + ", " + sticky + ")",
        x.shift(p, state, b, to, sticky), m.shift(p, state, b, to, sticky));
  }

  private int drop(int p, int state, int bytes, int n) {
    return (int) same("drop(" + p + ", " + state + ", " + bytes + ", " + n + ")",
        x.drop(p, state, bytes, n), m.drop(p, state, bytes, n));
  }

  private int close(int p) {
    int answer = (int) same("close(" + p + ")", x.close(p), m.close(p));
    if (answer == PlainExchange.BAD) {
      told(1);
      told(2);
      told(3);
    }
    return answer;
  }

  private void size(int p, int what) {
    same("size(" + p + ", " + what + ")", x.size(p, what), m.size(p, what));
  }

  private void code(int p, int point) {
    same("code(" + p + ", " + point + ")", x.code(p, point), m.code(p, point));
  }

  private void bytesIn(long w, int n) {
    same("bytesIn(" + w + ", " + n + ")", x.bytesIn(w, n), m.bytesIn(w, n));
  }

  private void unitsIn(long w, int n) {
    same("unitsIn(" + w + ", " + n + ")", x.unitsIn(w, n), m.unitsIn(w, n));
  }

  private int fill(int what) {
    return (int) same("fill(" + what + ")", x.fill(what), m.fill(what));
  }

  private void checkResult(int answer) {
    if (answer < 0) {
      told(0);
      return;
    }
    told(8);
    int looks = Math.min(answer, 8);
    for (int k = 0; k < looks && !failed; k++) {
      int i = answer <= 8 ? k : roll(answer);
      same("result(" + i + ")", x.result(i), m.result(i));
    }
    same("result(" + answer + ")", x.result(answer), m.result(answer));
  }

  private int decode(int p, int rule) {
    int answer = (int) same("decode(" + p + ", " + rule + ")", x.decode(p, rule), m.decode(p, rule));
    checkResult(answer);
    return answer;
  }

  private int encode(int p, int rule) {
    int answer = (int) same("encode(" + p + ", " + rule + ")", x.encode(p, rule), m.encode(p, rule));
    checkResult(answer);
    return answer;
  }

  private void transcode(int p, int rule, int q, int by) {
    checkResult((int) same("transcode(" + p + ", " + rule + ", " + q + ", " + by + ")",
        x.transcode(p, rule, q, by), m.transcode(p, rule, q, by)));
  }

  private void sign(int which, int point) {
    same("sign(" + which + ", " + point + ")", x.sign(which, point), m.sign(which, point));
  }

  private int fallback(int point) {
    return (int) same("fallback(" + point + ")", x.fallback(point), m.fallback(point));
  }

  private int begin(int d, int p, boolean writes, int rule) {
    return (int) same("begin(" + d + ", " + p + ", " + writes + ", " + rule + ")",
        x.begin(d, p, writes, rule), m.begin(d, p, writes, rule));
  }

  private int feed(int d, int v) {
    int answer = (int) same("feed(" + d + ", " + v + ")", x.feed(d, v), m.feed(d, v));
    if (answer <= PlainExchange.MALFORMED) {
      told(0);
    }
    return answer;
  }

  private int end(int d) {
    int answer = (int) same("end(" + d + ")", x.end(d), m.end(d));
    if (answer <= PlainExchange.MALFORMED) {
      told(0);
    }
    return answer;
  }

  private int take(int d) {
    return (int) same("take(" + d + ")", x.take(d), m.take(d));
  }

  private void machine(int d, int what) {
    same("machine(" + d + ", " + what + ")", x.machine(d, what), m.machine(d, what));
  }

  private void coverage(int p, int from, int to) {
    same("coverage(" + p + ", " + from + ", " + to + ")", x.coverage(p, from, to), m.coverage(p, from, to));
  }

  private void differ(int p, int q, int from) {
    same("differ(" + p + ", " + q + ", " + from + ")", x.differ(p, q, from), m.differ(p, q, from));
  }

  private void misread(int p, int q) {
    same("misread(" + p + ", " + q + ")", x.misread(p, q), m.misread(p, q));
  }

  private void faults(int p) {
    same("faults(" + p + ")", x.faults(p), m.faults(p));
  }

  private void detect() {
    same("detect()", x.detect(), m.detect());
  }

  private void lengths(int p, int what) {
    int answer = (int) same("lengths(" + p + ", " + what + ")", x.lengths(p, what), m.lengths(p, what));
    if (answer == PlainExchange.MISSING) {
      told(0);
    }
  }

  private int send(int p) {
    int answer = (int) same("send(" + p + ")", x.send(p), m.send(p));
    checkResult(answer);
    return answer;
  }

  private int receive() {
    return (int) same("receive()", x.receive(), m.receive());
  }

  private void told(int what) {
    same("told(" + what + ")", x.told(what), m.told(what));
  }

  // ---- what a run is made of

  private int aText(int n) {
    int text = 0;
    for (int i = 0; i < n; i++) {
      text = text << 8 | BYTES[roll(9)];
    }
    return text;
  }

  private void anyEntry(int p) {
    int n = roll(15) == 0 ? of(ODD) : 1 + roll(3);
    int bytes = roll(15) == 0 ? of(ODD) : aText(Math.max(1, Math.min(n, 4)));
    int point = aPoint();
    entry(p, near(3), bytes, n, roll(4) == 0 ? -1 - point : point);
  }

  private void anyShift(int p) {
    shift(p, near(3), roll(20) == 0 ? of(ODD) : BYTES[roll(9)], near(4), roll(3) > 0);
  }

  private void anyDrop(int p) {
    if (p >= 0 && p < m.sheets.size() && !m.sheets.get(p).items.isEmpty() && roll(3) > 0) {
      dropItem(p, roll(m.sheets.get(p).items.size()));
      return;
    }
    int n = 1 + roll(3);
    drop(p, near(4), aText(n), roll(10) == 0 ? of(ODD) : n);
  }

  private void dropItem(int p, int i) {
    PlainExchange.Item e = m.sheets.get(p).items.get(i);
    int text = 0;
    for (int b : e.text()) {
      text = text << 8 | b;
    }
    drop(p, e.state(), text, e.text().size());
  }

  /** A table that is mended till it can be closed. */
  private void buildTable(int p, int items, int moves) {
    for (int i = 0; i < items; i++) {
      if (i < moves) {
        shift(p, roll(4), BYTES[roll(6)], roll(4), roll(3) > 0);
      }
      int n = 1 + roll(3);
      int point = of(POINTS);
      entry(p, roll(3) == 0 ? 0 : roll(4), aText(n), n, roll(5) == 0 ? -1 - point : point);
    }
    for (int tries = 0; tries < 60 && !failed; tries++) {
      int[] fault = PlainExchange.fault(m.sheets.get(p));
      if (roll(5) == 0 || fault == null) {
        if (close(p) == 0) {
          return;
        }
      }
      mend(p, fault);
    }
    close(p);
  }

  private void mend(int p, int[] fault) {
    if (fault == null) {
      return;
    }
    PlainExchange.Sheet s = m.sheets.get(p);
    if (fault[0] == 1 && fault[2] >= 100) {
      if (roll(3) > 0) {
        dropItem(p, fault[1]);
      } else {
        PlainExchange.Move move = s.moves.get(fault[2] - 100);
        drop(p, move.state(), move.value(), 1);
      }
    } else if (fault[0] == 1) {
      dropItem(p, roll(2) == 0 ? fault[1] : fault[2]);
    } else if (fault[0] == 2) {
      mendPoint(p, fault[1]);
    } else if (fault[0] == 3) {
      if (shift(p, fault[1], roll(256), roll(3) == 0 ? roll(4) : 0, true) == PlainExchange.FULL) {
        PlainExchange.Move move = s.moves.get(roll(s.moves.size()));
        drop(p, move.state(), move.value(), 1);
      }
    } else if (roll(2) == 0) {
      dropItem(p, fault[1]);
    } else {
      shift(p, 0, roll(256), s.items.get(fault[1]).state(), roll(3) == 0);
    }
  }

  private void mendPoint(int p, int point) {
    PlainExchange.Sheet s = m.sheets.get(p);
    boolean first = true;
    for (int i = 0; i < s.items.size(); i++) {
      PlainExchange.Item e = s.items.get(i);
      if (e.point() == point) {
        int text = 0;
        for (int b : e.text()) {
          text = text << 8 | b;
        }
        entry(p, e.state(), text, e.text().size(), first ? point : -1 - point);
        first = false;
      }
    }
  }

  private void someBytes() {
    if (roll(6) == 0) {
      fill(0);
    }
    for (int i = roll(4); i >= 0; i--) {
      long w = 0;
      for (int k = 0; k < 8; k++) {
        w = w << 8 | (roll(8) == 0 ? roll(256) : of(BYTES));
      }
      bytesIn(w, roll(12) == 0 ? of(ODD) : 1 + roll(8));
    }
  }

  private void someUnits() {
    if (roll(6) == 0) {
      fill(1);
    }
    for (int i = roll(3); i >= 0; i--) {
      long w = 0;
      for (int k = 0; k < 4; k++) {
        int point = of(POINTS);
        w = w << 16 | (roll(3) > 0 && point < 65536 ? point : of(UNITS));
      }
      unitsIn(w, roll(12) == 0 ? of(ODD) : 1 + roll(4));
    }
  }

  /** Units that a page can write, so that much is written before something is missing. */
  private void knownUnits(int p) {
    if (p < 0 || p >= m.sheets.size() || m.sheets.get(p).items.isEmpty()) {
      someUnits();
      return;
    }
    fill(1);
    PlainExchange.Sheet s = m.sheets.get(p);
    for (int i = 1 + roll(6); i > 0; i--) {
      int point = s.items.get(roll(s.items.size())).point();
      char[] units = Character.toChars(point);
      unitsIn(units.length == 1 ? units[0] : (long) units[0] << 16 | units[1], units.length);
    }
  }

  private void someFallbacks() {
    for (int i = roll(6); i >= 0; i--) {
      fill(1);
      for (int k = roll(4); k > 0; k--) {
        char[] units = Character.toChars(roll(2) == 0 ? of(POINTS) : 0x100 + roll(60));
        unitsIn(units.length == 1 ? units[0] : (long) units[0] << 16 | units[1], units.length);
      }
      if (roll(12) == 0) {
        unitsIn(of(UNITS), 1);
      }
      fallback(roll(3) == 0 ? aPoint() : 0x100 + roll(60));
    }
  }

  /** Parts that often have fallbacks themselves, so that whole texts are long and may loop. */
  private void longFallbacks() {
    for (int i = 4 + roll(12); i >= 0; i--) {
      int point = 0x200 + roll(12);
      for (int k = 1 + roll(4); k > 0; k--) {
        unitsIn(roll(4) == 0 ? of(new int[] {0x41, 0x61, 0x62}) : Math.min(point + 1 + roll(3), 0x20C), 1);
      }
      fallback(roll(8) == 0 ? 0x20C : point);
      fill(1);
    }
    for (int i = 0; i < 3; i++) {
      unitsIn(0x200 + roll(12), 1);
      encode(closedPage(), 4);
    }
  }

  /** Each round doubles the units: written high first, read byte by byte. */
  private void grow() {
    int high = page(1);
    int few = page(3);
    if (high < 0 || few < 0) {
      return;
    }
    unitsIn(0x0041004200430044L, 4);
    for (int i = 0; i < 9; i++) {
      encode(high, 3);
      fill(2);
      decode(few, 3);
      fill(3);
    }
  }

  /** Fills the bytes to their bound by texts of a page. */
  private void manyBytes() {
    for (int i = 0; i < 130; i++) {
      bytesIn(random.nextLong(), 8);
    }
    bytesIn(random.nextLong(), roll(8) + 1);
  }

  private void runMachine() {
    int d = near(4);
    int p = closedPage();
    boolean writes = roll(2) == 0;
    if (begin(d, p, writes, near(writes ? 5 : 4)) < 0) {
      return;
    }
    int greed = roll(5) == 0 ? 200 : 12;
    for (int i = roll(greed); i >= 0 && calls < CALLS; i--) {
      feedOne(d, p, writes);
      if (roll(6) == 0) {
        machine(d, roll(5));
      }
      if (greed < 100 && roll(4) == 0) {
        take(d);
      }
    }
    for (int what = 0; what < 6; what++) {
      machine(d, what);
    }
    if (roll(4) > 0) {
      end(d);
      for (int what = 0; what < 5; what++) {
        machine(d, what);
      }
    }
    for (int i = 0; i < 12 && take(d) >= 0; i++) {
      machine(d, 0);
    }
  }

  private void feedOne(int d, int p, boolean writes) {
    int v = writes ? of(UNITS) : of(BYTES);
    boolean table = p >= 0 && p < m.sheets.size() && !m.sheets.get(p).items.isEmpty();
    if (table && roll(4) > 0) {
      PlainExchange.Sheet s = m.sheets.get(p);
      PlainExchange.Item e = s.items.get(roll(s.items.size()));
      if (!writes) {
        for (int b : e.text()) {
          feed(d, b);
        }
        return;
      }
      for (char unit : Character.toChars(e.point())) {
        feed(d, unit);
      }
      return;
    }
    if (writes && roll(4) == 0) {
      v = 0x100 + roll(60);
    }
    feed(d, roll(30) == 0 ? of(ODD) : v);
  }

  private void sendAndReceive() {
    int p = closedPage();
    if (send(p) < 0) {
      return;
    }
    fill(2);
    int dice = roll(4);
    if (dice == 0) {
      receive();
      return;
    }
    changedPage(dice);
  }

  private void changedPage(int dice) {
    // A page with one byte changed, and a sum that is right again.
    java.util.List<Integer> row = new java.util.ArrayList<>(m.bytes);
    row.remove(row.size() - 1);
    row.remove(row.size() - 1);
    if (dice == 1 && row.size() > 2) {
      row.remove(row.size() - 1 - roll(2));
    } else if (dice == 2) {
      int at = roll(row.size());
      row.set(at, roll(2) == 0 ? roll(4) : roll(256));
    } else {
      row.add(roll(3));
    }
    if (row.size() > 200) {
      return;
    }
    long sum = 0;
    for (int i = 0; i < row.size(); i++) {
      sum += (i + 1) * row.get(i);
    }
    sum %= 65521;
    row.add((int) sum >> 8);
    row.add((int) sum & 255);
    fill(0);
    for (int from = 0; from < row.size(); from += 8) {
      int n = Math.min(8, row.size() - from);
      long w = 0;
      for (int i = 0; i < n; i++) {
        w = w << 8 | row.get(from + i);
      }
      bytesIn(w, n);
    }
    receive();
    told(1);
  }

  private void anyRange() {
    int from = roll(3) == 0 ? aPoint() : of(POINTS);
    int to = roll(3) == 0 ? aPoint() : from + (roll(4) == 0 ? 65530 + roll(10) : roll(0x900));
    coverage(closedPage(), from, to);
  }

  private void anyCall() {
    switch (roll(30)) {
      case 0: page(near(4)); break;
      case 1: derive(closedPage()); break;
      case 2: anyEntry(aPage()); break;
      case 3: anyShift(aPage()); break;
      case 4: anyDrop(aPage()); break;
      case 5: close(aPage()); break;
      case 6: size(aPage(), near(4)); break;
      case 7: code(closedPage(), aPoint()); break;
      case 8: someBytes(); break;
      case 9: someUnits(); break;
      case 10: fill(near(4)); break;
      case 11: decode(closedPage(), near(4)); break;
      case 12: encode(closedPage(), near(5)); break;
      case 13: transcode(closedPage(), near(4), closedPage(), near(5)); break;
      case 14: same("result", x.result(-1), m.result(-1)); break;
      case 15: sign(near(2), aPoint()); break;
      case 16:
        if (roll(2) == 0) {
          someFallbacks();
        } else {
          longFallbacks();
        }
        break;
      case 17: runMachine(); break;
      case 18: take(near(4)); break;
      case 19: anyRange(); break;
      case 20: differ(closedPage(), closedPage(), aPoint()); break;
      case 21: misread(closedPage(), closedPage()); break;
      case 22: faults(closedPage()); break;
      case 23: detect(); break;
      case 24: lengths(closedPage(), near(2)); break;
      case 25: sendAndReceive(); break;
      case 26: receive(); break;
      case 27: told(near(11)); break;
      case 28: pageAndBack(); break;
      default: feed(near(4), of(BYTES)); end(near(4)); break;
    }
  }

  private void pageAndBack() {
    int p = closedPage();
    knownUnits(p);
    if (encode(p, near(5)) >= 0 && fill(2) >= 0) {
      decode(p, near(4));
      lengths(p, roll(2));
      fill(3);
    }
  }

  private void deriveAndChange() {
    int p = closedPage();
    int q = derive(p);
    if (q < 0) {
      return;
    }
    for (int i = roll(4); i >= 0; i--) {
      if (roll(2) == 0) {
        anyEntry(q);
      } else {
        anyDrop(q);
      }
    }
    buildTable(q, 0, 0);
    differ(p, q, roll(2) == 0 ? 0 : of(POINTS));
    differ(q, p, of(POINTS));
  }

  private void play() {
    if (seed % 3 == 0) {
      page(1 + roll(3));
    }
    int tables = 1 + roll(3);
    for (int i = 0; i < tables; i++) {
      int p = page(0);
      if (p >= 0) {
        buildTable(p, 3 + roll(20), roll(9));
      }
    }
    if (seed % 7 == 1) {
      someFallbacks();
      grow();
    }
    if (seed % 11 == 1) {
      manyBytes();
    }
    if (seed % 2 == 0) {
      deriveAndChange();
    }
    while (calls < CALLS - 1 && !failed) {
      anyCall();
    }
    told(10);
  }

  public static void main(String[] args) {
    int runs = args.length > 1 ? Integer.parseInt(args[1]) : 1500;
    for (int seed = 1; seed <= runs && wrong < 10; seed++) {
      new ModelTest(seed).play();
    }
    StringBuilder text = new StringBuilder("findings that were due, -1 to -13:");
    for (int i = 1; i < seen.length; i++) {
      text.append(' ').append(seen[i]);
      if (seen[i] == 0) {
        System.out.println("no run was due the finding -" + i);
        wrong++;
      }
    }
    System.out.println(text);
    System.out.println(wrong == 0 ? "all answers are as due" : wrong + " runs are not as due");
    System.exit(wrong == 0 ? 0 : 1);
  }
}
