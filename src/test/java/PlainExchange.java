import java.nio.charset.StandardCharsets;
import java.util.ArrayList;
import java.util.Arrays;
import java.util.BitSet;
import java.util.Collections;
import java.util.HashSet;
import java.util.LinkedHashMap;
import java.util.List;
import java.util.Map;
import java.util.Set;
import java.util.TreeSet;

/**
 * The document once more, in its plainest words and with no thought for speed or room: lists are
 * searched from end to end, ways are tried out one by one, built-in forms are looked up in a list
 * of all points. ModelTest holds CodeExchange against it.
 */
final class PlainExchange {
  static final int BEYOND = -1, NONE = -2, KIND = -3, CLOSED = -4, OPEN = -5, FULL = -6, THERE = -7,
      BAD = -8, MALFORMED = -9, MISSING = -10, LOOP = -11, LONG = -12, SUM = -13;

  record Item(int state, List<Integer> text, int point, boolean preferred) { }

  record Move(int state, int value, int goal, boolean sticky) { }

  static final class Sheet {
    final int kind;
    boolean closed;
    final List<Item> items = new ArrayList<>();
    final List<Move> moves = new ArrayList<>();

    Sheet(int kind) {
      this.kind = kind;
      closed = kind != 0;
    }
  }

  /** All texts of a built-in form. */
  static final class Form {
    final long[] texts = new long[0x110000 - 0x800];
    final int[] points = new int[texts.length];
    final BitSet[] begins = {new BitSet(), new BitSet(), new BitSet(), new BitSet()};

    Form(int kind) {
      List<long[]> all = new ArrayList<>();
      for (int point = 0; point < 0x110000; point++) {
        if (point >= 0xD800 && point < 0xE000) {
          continue;
        }
        int[] text = spelled(kind, point);
        long number = 0;
        for (int i = 0; i < text.length; i++) {
          if (i > 0) {
            begins[i].set((int) number);
          }
          number = number * 256 + text[i];
        }
        all.add(new long[] {((long) text.length << 32) + number, point});
      }
      all.sort((a, b) -> Long.compare(a[0], b[0]));
      for (int i = 0; i < texts.length; i++) {
        texts[i] = all.get(i)[0];
        points[i] = (int) all.get(i)[1];
      }
    }
  }

  private static final Form[] FORMS = {null, new Form(1), new Form(2), new Form(3)};

  static int[] spelled(int kind, int point) {
    List<Integer> made = new ArrayList<>();
    if (kind == 3) {
      for (byte b : new String(Character.toChars(point)).getBytes(StandardCharsets.UTF_8)) {
        made.add(b & 255);
      }
    } else {
      for (char unit : Character.toChars(point)) {
        made.add(kind == 1 ? unit / 256 : unit % 256);
        made.add(kind == 1 ? unit % 256 : unit / 256);
      }
    }
    return made.stream().mapToInt(Integer::intValue).toArray();
  }

  static final class Robot {
    boolean begun, writes;
    int page, rule, state, pending = 4, phase, fed;
    List<Integer> kept = new ArrayList<>();
    List<Integer> waits = new ArrayList<>();
  }

  final List<Sheet> sheets = new ArrayList<>();
  List<Integer> bytes = new ArrayList<>();
  List<Integer> units = new ArrayList<>();
  List<Integer> result = new ArrayList<>();
  int resultKind;
  final int[] signs = {0xFFFD, 63};
  final Map<Integer, List<Integer>> fallbacks = new LinkedHashMap<>();
  final Robot[] robots = {new Robot(), new Robot(), new Robot(), new Robot()};
  int place;
  int[] broken = new int[3];
  int findings;

  private int tell(int answer) {
    if (answer < 0) {
      findings++;
    }
    return answer;
  }

  static boolean point(int v) {
    return v >= 0 && v <= 0x10FFFF && (v < 0xD800 || v > 0xDFFF);
  }

  private Sheet at(int p) {
    return p >= 0 && p < sheets.size() ? sheets.get(p) : null;
  }

  private static List<Integer> cut(long number, int n, int each) {
    List<Integer> made = new ArrayList<>();
    for (int i = 0; i < n; i++) {
      made.add(0, (int) (number & ((1L << each) - 1)));
      number >>>= each;
    }
    return made;
  }

  int page(int kind) {
    if (kind < 0 || kind > 3) return tell(BEYOND);
    if (sheets.size() == 10) return tell(FULL);
    sheets.add(new Sheet(kind));
    return sheets.size() - 1;
  }

  int derive(int q) {
    Sheet from = at(q);
    if (from == null) return tell(BEYOND);
    if (from.kind != 0) return tell(KIND);
    if (!from.closed) return tell(OPEN);
    if (sheets.size() == 10) return tell(FULL);
    Sheet made = new Sheet(0);
    made.items.addAll(from.items);
    made.moves.addAll(from.moves);
    sheets.add(made);
    return sheets.size() - 1;
  }

  private int unready(int p) {
    Sheet s = at(p);
    if (s == null) return BEYOND;
    if (s.kind != 0) return KIND;
    return s.closed ? CLOSED : 0;
  }

  private static boolean wrongText(int state, int bytes, int n) {
    return state < 0 || state > 3 || n < 1 || n > 3 || bytes < 0 || bytes >= Math.pow(256, n);
  }

  private static int find(Sheet s, int state, List<Integer> text) {
    for (int i = 0; i < s.items.size(); i++) {
      if (s.items.get(i).state == state && s.items.get(i).text.equals(text)) return i;
    }
    return -1;
  }

  int entry(int p, int state, int bytes, int n, int code) {
    int not = unready(p);
    if (not < 0) return tell(not);
    long point = code >= 0 ? code : -1L - code;
    if (wrongText(state, bytes, n) || point > 0x10FFFF || !point((int) point)) return tell(BEYOND);
    List<Integer> text = cut(bytes, n, 8);
    Item item = new Item(state, text, (int) point, code >= 0);
    int was = find(at(p), state, text);
    if (was >= 0) {
      at(p).items.set(was, item);
      return 1;
    }
    if (at(p).items.size() == 100) return tell(FULL);
    at(p).items.add(item);
    return 0;
  }

  int shift(int p, int state, int b, int to, boolean sticky) {
    int not = unready(p);
    if (not < 0) return tell(not);
    if (state < 0 || state > 3 || to < 0 || to > 3 || state == to || b < 0 || b > 255) {
      return tell(BEYOND);
    }
    for (Move m : at(p).moves) {
      if (m.state == state && m.value == b) return tell(THERE);
    }
    if (at(p).moves.size() == 10) return tell(FULL);
    at(p).moves.add(new Move(state, b, to, sticky));
    return 0;
  }

  int drop(int p, int state, int bytes, int n) {
    int not = unready(p);
    if (not < 0) return tell(not);
    if (wrongText(state, bytes, n)) return tell(BEYOND);
    int was = find(at(p), state, cut(bytes, n, 8));
    if (was >= 0) {
      at(p).items.remove(was);
      return 0;
    }
    if (n == 1 && at(p).moves.removeIf(m -> m.state == state && m.value == bytes)) return 1;
    return tell(NONE);
  }

  private static boolean beginsWith(List<Integer> text, List<Integer> begin) {
    return text.size() >= begin.size() && text.subList(0, begin.size()).equals(begin);
  }

  static Set<Integer> reached(Sheet s) {
    Set<Integer> all = new TreeSet<>(Set.of(0));
    boolean more = true;
    while (more) {
      more = false;
      for (Move m : s.moves) {
        if (m.sticky && all.contains(m.state)) more |= all.add(m.goal);
      }
    }
    return all;
  }

  private static boolean homes(Sheet s, int state, int depth) {
    if (state == 0) return true;
    if (depth == 5) return false;
    for (Move m : s.moves) {
      if (m.sticky && m.state == state && homes(s, m.goal, depth + 1)) return true;
    }
    return false;
  }

  /** Rule, first, second; or null when it is good. */
  static int[] fault(Sheet s) {
    List<Integer> numbers = new ArrayList<>();
    List<Integer> states = new ArrayList<>();
    List<List<Integer>> texts = new ArrayList<>();
    for (int i = 0; i < s.items.size(); i++) {
      numbers.add(i);
      states.add(s.items.get(i).state);
      texts.add(s.items.get(i).text);
    }
    for (int i = 0; i < s.moves.size(); i++) {
      numbers.add(100 + i);
      states.add(s.moves.get(i).state);
      texts.add(List.of(s.moves.get(i).value));
    }
    for (int i = 0; i < texts.size(); i++) {
      for (int k = i + 1; k < texts.size(); k++) {
        if (states.get(i).equals(states.get(k)) && (beginsWith(texts.get(i), texts.get(k))
            || beginsWith(texts.get(k), texts.get(i)))) {
          return new int[] {1, numbers.get(i), numbers.get(k)};
        }
      }
    }
    TreeSet<Integer> points = new TreeSet<>();
    for (Item e : s.items) points.add(e.point);
    for (int point : points) {
      long many = s.items.stream().filter(e -> e.point == point && e.preferred).count();
      if (many != 1) return new int[] {2, point, 0};
    }
    Set<Integer> reached = reached(s);
    for (int state : reached) {
      if (!homes(s, state, 0)) return new int[] {3, state, 0};
    }
    for (int i = 0; i < s.items.size(); i++) {
      int state = s.items.get(i).state;
      boolean ok = reached.contains(state) || s.moves.stream().anyMatch(
          m -> !m.sticky && m.goal == state && reached.contains(m.state));
      if (s.items.get(i).preferred && !ok) return new int[] {4, i, 0};
    }
    return null;
  }

  int close(int p) {
    int not = unready(p);
    if (not < 0) return tell(not);
    int[] fault = fault(at(p));
    if (fault != null) {
      broken = fault;
      return tell(BAD);
    }
    at(p).closed = true;
    return 0;
  }

  int size(int p, int what) {
    Sheet s = at(p);
    if (s == null || what < 0 || what > 3) return tell(BEYOND);
    return new int[] {s.kind, s.closed ? 1 : 0, s.items.size(), s.moves.size()}[what];
  }

  private int unclosed(int... ps) {
    for (int p : ps) {
      if (at(p) == null) return BEYOND;
    }
    for (int p : ps) {
      if (!at(p).closed) return OPEN;
    }
    return 0;
  }

  /** The preferred entry, or null. */
  private static Item preferred(Sheet s, int point) {
    if (s.kind != 0) {
      List<Integer> text = new ArrayList<>();
      for (int b : spelled(s.kind, point)) text.add(b);
      return new Item(0, text, point, true);
    }
    for (Item e : s.items) {
      if (e.point == point && e.preferred) return e;
    }
    return null;
  }

  long code(int p, int point) {
    int not = unclosed(p);
    if (not < 0) return tell(not);
    if (!point(point)) return tell(BEYOND);
    Item e = preferred(at(p), point);
    if (e == null) return tell(NONE);
    long number = 0;
    for (int b : e.text) number = number * 256 + b;
    return number + e.text.size() * (1L << 32);
  }

  int bytesIn(long w, int n) {
    if (n < 1 || n > 8) return tell(BEYOND);
    if (bytes.size() + n > 1000) return tell(FULL);
    bytes.addAll(cut(w, n, 8));
    return bytes.size();
  }

  int unitsIn(long w, int n) {
    if (n < 1 || n > 4) return tell(BEYOND);
    if (units.size() + n > 1000) return tell(FULL);
    units.addAll(cut(w, n, 16));
    return units.size();
  }

  int fill(int what) {
    if (what < 0 || what > 3) return tell(BEYOND);
    int had = what == 0 ? bytes.size() : units.size();
    if (what == 0) bytes = new ArrayList<>();
    if (what == 1) units = new ArrayList<>();
    if (what < 2) return had;
    if (resultKind != (what == 2 ? 2 : 1)) return tell(NONE);
    if (result.size() > 1000) return tell(FULL);
    if (what == 2) bytes = new ArrayList<>(result);
    else units = new ArrayList<>(result);
    return result.size();
  }

  // ---- reading

  private static final int PART = -100, NO_TEXT = -101;

  /** The length of the entry of a state that begins there, PART, or NO_TEXT; its point in out. */
  private static int match(Sheet s, int state, List<Integer> row, int at, int[] out) {
    boolean part = false;
    if (s.kind != 0) {
      long number = 0;
      for (int n = 1; n <= 4 && at + n <= row.size(); n++) {
        number = number * 256 + row.get(at + n - 1);
        int where = Arrays.binarySearch(FORMS[s.kind].texts, ((long) n << 32) + number);
        if (where >= 0) {
          out[0] = FORMS[s.kind].points[where];
          return n;
        }
        part = at + n == row.size() && n < 4 && FORMS[s.kind].begins[n].get((int) number);
      }
      return part ? PART : NO_TEXT;
    }
    List<Integer> rest = row.subList(at, Math.min(row.size(), at + 3));
    for (Item e : s.items) {
      if (e.state != state) continue;
      if (beginsWith(rest, e.text)) {
        out[0] = e.point;
        return e.text.size();
      }
      part |= rest.size() < e.text.size() && beginsWith(e.text, rest);
    }
    return part ? PART : NO_TEXT;
  }

  private static void addUnits(List<Integer> out, int point) {
    for (char c : Character.toChars(point)) out.add((int) c);
  }

  /**
   * Reads kept bytes of a robot as far as may be: 0, or MALFORMED; what is left stays kept. The
   * places of malformed bytes come to faults.
   */
  private int readOn(Robot r, boolean last, List<Integer> out, List<Integer> faults) {
    Sheet s = at(r.page);
    int at = 0;
    while (at < r.kept.size()) {
      int[] found = new int[1];
      int length = match(s, r.pending < 4 ? r.pending : r.state, r.kept, at, found);
      if (length == PART && !last) break;
      Move move = null;
      for (Move m : s.moves) {
        if (r.pending == 4 && m.state == r.state && m.value == r.kept.get(at)) move = m;
      }
      if (length > 0) {
        addUnits(out, found[0]);
        r.pending = 4;
        at += length;
      } else if (move != null) {
        if (move.sticky) r.state = move.goal;
        else r.pending = move.goal;
        at++;
      } else {
        faults.add(at);
        r.pending = 4;
        if (r.rule == 0) {
          r.kept = new ArrayList<>(r.kept.subList(at, r.kept.size()));
          return MALFORMED;
        }
        if (r.rule == 1) addUnits(out, signs[0]);
        if (r.rule == 3) out.add(0xDC00 + r.kept.get(at));
        at++;
      }
    }
    r.kept = new ArrayList<>(r.kept.subList(at, r.kept.size()));
    return 0;
  }

  private Robot robot(int p, int rule, List<Integer> all) {
    Robot r = new Robot();
    r.page = p;
    r.rule = rule;
    r.kept = new ArrayList<>(all);
    return r;
  }

  /** The units, or null when a byte is refused. */
  private List<Integer> read(int p, int rule) {
    List<Integer> out = new ArrayList<>();
    List<Integer> faults = new ArrayList<>();
    if (readOn(robot(p, rule, bytes), true, out, faults) < 0) {
      place = faults.get(0);
      return null;
    }
    return out;
  }

  private int keep(List<Integer> made, int kind) {
    result = made;
    resultKind = kind;
    return made.size();
  }

  int decode(int p, int rule) {
    int not = unclosed(p);
    if (not < 0) return tell(not);
    if (rule < 0 || rule > 3) return tell(BEYOND);
    List<Integer> made = read(p, rule);
    return made == null ? tell(MALFORMED) : keep(made, 1);
  }

  // ---- writing

  /** All ways of a number of shifts to a goal, each sticky but the last, as rows of shifts. */
  private static List<List<Move>> ways(Sheet s, int from, int goal, int many, boolean single) {
    List<List<Move>> all = new ArrayList<>();
    if (many == 0) {
      if (from == goal) all.add(List.of());
      return all;
    }
    for (Move m : s.moves) {
      if (m.state != from) continue;
      if (m.sticky) {
        for (List<Move> rest : ways(s, m.goal, goal, many - 1, single)) {
          List<Move> way = new ArrayList<>(List.of(m));
          way.addAll(rest);
          all.add(way);
        }
      } else if (single && many == 1 && m.goal == goal) {
        all.add(List.of(m));
      }
    }
    return all;
  }

  private static List<Move> way(Sheet s, int from, int goal, boolean single) {
    for (int many = 0; many < 6; many++) {
      List<List<Move>> all = ways(s, from, goal, many, single);
      if (!all.isEmpty()) {
        return Collections.min(all, (a, b) -> {
          for (int i = 0; i < a.size(); i++) {
            if (a.get(i).value != b.get(i).value) return a.get(i).value - b.get(i).value;
          }
          return 0;
        });
      }
    }
    throw new IllegalStateException("no way from " + from + " to " + goal);
  }

  private static int walk(List<Move> way, int state, List<Integer> out) {
    for (Move m : way) {
      out.add(m.value);
      if (m.sticky) state = m.goal;
    }
    return state;
  }

  private static boolean put(Robot r, Sheet s, int point, List<Integer> out) {
    Item e = preferred(s, point);
    if (e == null) return false;
    r.state = walk(way(s, r.state, e.state, true), r.state, out);
    out.addAll(e.text);
    return true;
  }

  private boolean spell(Robot r, Sheet s, int point, List<Integer> out) {
    if (!fallbacks.containsKey(point)) return false;
    for (int part : fallbacks.get(point)) {
      if (!put(r, s, part, out) && !spell(r, s, part, out)) return false;
    }
    return true;
  }

  /** One point (or -1 and a lone half): its bytes, or null when it is refused. */
  private List<Integer> written(Robot r, int point, int unit) {
    Sheet s = at(r.page);
    int before = r.state;
    List<Integer> out = new ArrayList<>();
    if (point >= 0 && put(r, s, point, out)) return out;
    boolean done = r.rule == 1 || r.rule == 2;
    if (r.rule == 1) put(r, s, signs[1], out);
    if (r.rule == 3 && point < 0 && unit >= 0xDC00 && unit <= 0xDCFF) {
      out.add(unit - 0xDC00);
      done = true;
    }
    if (r.rule == 4 && point >= 0) done = spell(r, s, point, out);
    if (!done) r.state = before;
    return done ? out : null;
  }

  /** Rows of {point or -1, first unit, place}. */
  private static List<int[]> points(List<Integer> row) {
    List<int[]> all = new ArrayList<>();
    for (int i = 0; i < row.size(); i++) {
      int unit = row.get(i);
      boolean high = unit >= 0xD800 && unit <= 0xDBFF;
      boolean low = unit >= 0xDC00 && unit <= 0xDFFF;
      if (high && i + 1 < row.size() && row.get(i + 1) >= 0xDC00 && row.get(i + 1) <= 0xDFFF) {
        all.add(new int[] {Character.toCodePoint((char) unit, (char) (int) row.get(i + 1)), unit, i});
        i++;
      } else {
        all.add(new int[] {high || low ? -1 : unit, unit, i});
      }
    }
    return all;
  }

  /** A finding, or how many bytes; they come to out. */
  private int write(int p, int rule, int state, int most, List<Integer> row, List<Integer> out) {
    Robot r = robot(p, rule, List.of());
    r.state = state;
    for (int[] next : points(row)) {
      List<Integer> made = written(r, next[0], next[1]);
      if (made == null) {
        place = next[2];
        return MISSING;
      }
      out.addAll(made);
      if (out.size() > most) return FULL;
    }
    walk(way(at(p), r.state, 0, false), r.state, out);
    return out.size() > most ? FULL : out.size();
  }

  int encode(int p, int rule) {
    int not = unclosed(p);
    if (not < 0) return tell(not);
    if (rule < 0 || rule > 4) return tell(BEYOND);
    List<Integer> out = new ArrayList<>();
    int answer = write(p, rule, 0, 6000, units, out);
    return answer < 0 ? tell(answer) : keep(out, 2);
  }

  int transcode(int p, int rule, int q, int by) {
    int not = unclosed(p, q);
    if (not < 0) return tell(not);
    if (rule < 0 || rule > 3 || by < 0 || by > 4) return tell(BEYOND);
    List<Integer> row = read(p, rule);
    if (row == null) return tell(MALFORMED);
    List<Integer> out = new ArrayList<>();
    int answer = write(q, by, 0, 6000, row, out);
    return answer < 0 ? tell(answer) : keep(out, 2);
  }

  int result(int i) {
    return i >= 0 && i < result.size() ? result.get(i) : tell(NONE);
  }

  int sign(int which, int point) {
    if (which < 0 || which > 1 || !point(point)) return tell(BEYOND);
    int was = signs[which];
    signs[which] = point;
    return was;
  }

  private static boolean loops(Map<Integer, List<Integer>> all, int point, Set<Integer> open) {
    if (!all.containsKey(point)) return false;
    if (open.contains(point)) return true;
    Set<Integer> more = new HashSet<>(open);
    more.add(point);
    for (int part : all.get(point)) {
      if (loops(all, part, more)) return true;
    }
    return false;
  }

  /** No more is counted once it is clear that there are too many. */
  private static int whole(Map<Integer, List<Integer>> all, int point) {
    if (!all.containsKey(point)) return 1;
    int sum = 0;
    for (int part : all.get(point)) {
      if (sum <= 16) sum += whole(all, part);
    }
    return sum;
  }

  int fallback(int point) {
    if (!point(point)) return tell(BEYOND);
    List<Integer> parts = new ArrayList<>();
    for (int[] next : points(units)) parts.add(next[0]);
    if (parts.size() > 4 || parts.contains(-1)) return tell(BAD);
    if (!parts.isEmpty() && fallbacks.size() == 40 && !fallbacks.containsKey(point)) {
      return tell(FULL);
    }
    Map<Integer, List<Integer>> would = new LinkedHashMap<>(fallbacks);
    if (parts.isEmpty()) would.remove(point);
    else would.put(point, parts);
    for (int each : would.keySet()) {
      if (loops(would, each, Set.of())) return tell(LOOP);
    }
    for (int each : would.keySet()) {
      if (whole(would, each) > 16) return tell(LONG);
    }
    fallbacks.clear();
    fallbacks.putAll(would);
    units = new ArrayList<>();
    return fallbacks.size();
  }

  // ---- machines

  int begin(int d, int p, boolean writes, int rule) {
    if (d < 0 || d > 3) return tell(BEYOND);
    int not = unclosed(p);
    if (not < 0) return tell(not);
    if (rule < 0 || rule > (writes ? 4 : 3)) return tell(BEYOND);
    robots[d] = robot(p, rule, List.of());
    robots[d].begun = true;
    robots[d].writes = writes;
    return 0;
  }

  private int over(Robot r, int finding, int where) {
    place = where;
    r.phase = 2;
    r.kept.clear();
    return tell(finding);
  }

  /** What is kept is worked off, all of it when nothing more comes. */
  private int workOff(Robot r, boolean last) {
    int first = r.fed - r.kept.size();
    if (!r.writes) {
      List<Integer> faults = new ArrayList<>();
      int outcome = readOn(r, last, r.waits, faults);
      if (outcome < 0) return over(r, MALFORMED, first + faults.get(faults.size() - 1));
      return 0;
    }
    for (int[] next : points(r.kept)) {
      boolean open = next[0] < 0 && next[1] < 0xDC00 && next[2] == r.kept.size() - 1;
      if (open && !last) {
        r.kept = new ArrayList<>(List.of(next[1]));
        return 0;
      }
      List<Integer> made = written(r, next[0], next[1]);
      if (made == null) return over(r, MISSING, first + next[2]);
      r.waits.addAll(made);
    }
    r.kept.clear();
    return 0;
  }

  int feed(int d, int v) {
    if (d < 0 || d > 3) return tell(BEYOND);
    Robot r = robots[d];
    if (!r.begun || r.phase != 0) return tell(NONE);
    if (v < 0 || v > (r.writes ? 65535 : 255)) return tell(BEYOND);
    if (r.waits.size() > 300) return tell(FULL);
    r.kept.add(v);
    r.fed++;
    int outcome = workOff(r, false);
    return outcome < 0 ? outcome : r.waits.size();
  }

  int end(int d) {
    if (d < 0 || d > 3) return tell(BEYOND);
    Robot r = robots[d];
    if (!r.begun || r.phase != 0) return tell(NONE);
    if (r.waits.size() > 300) return tell(FULL);
    int outcome = workOff(r, true);
    if (outcome < 0) return outcome;
    if (r.writes) r.state = walk(way(at(r.page), r.state, 0, false), r.state, r.waits);
    r.pending = 4;
    r.phase = 1;
    return r.waits.size();
  }

  int take(int d) {
    if (d < 0 || d > 3) return tell(BEYOND);
    return robots[d].waits.isEmpty() ? tell(NONE) : robots[d].waits.remove(0);
  }

  int machine(int d, int what) {
    if (d < 0 || d > 3) return tell(BEYOND);
    Robot r = robots[d];
    if (!r.begun) return tell(NONE);
    if (what < 0 || what > 4) return tell(BEYOND);
    return new int[] {r.waits.size(), r.state, r.pending, r.kept.size(), r.phase}[what];
  }

  // ---- pages beside one another

  private static boolean has(Sheet s, int point) {
    return s.kind != 0 || s.items.stream().anyMatch(e -> e.point == point);
  }

  int coverage(int p, int from, int to) {
    int not = unclosed(p);
    if (not < 0) return tell(not);
    if (from < 0 || from > 0x10FFFF || to < 0 || to > 0x10FFFF || to < from || to - from >= 65536) {
      return tell(BEYOND);
    }
    int many = 0;
    for (int point = from; point <= to; point++) {
      if (point(point) && has(at(p), point)) many++;
    }
    return many;
  }

  int differ(int p, int q, int from) {
    int not = unclosed(p, q);
    if (not < 0) return tell(not);
    if (from < 0 || from > 0x10FFFF) return tell(BEYOND);
    int kept = place;
    for (int point = from; point < from + 4096; point++) {
      if (!point(point) || (!has(at(p), point) && !has(at(q), point))) continue;
      if (has(at(p), point) != has(at(q), point)) return point;
      List<Integer> row = new ArrayList<>();
      addUnits(row, point);
      List<Integer> one = new ArrayList<>();
      List<Integer> other = new ArrayList<>();
      write(p, 0, 0, 6000, row, one);
      write(q, 0, 0, 6000, row, other);
      if (!one.equals(other)) return point;
    }
    place = kept;
    return tell(NONE);
  }

  int misread(int p, int q) {
    int not = unclosed(p, q);
    if (not < 0) return tell(not);
    List<Integer> one = read(p, 3);
    List<Integer> other = read(q, 3);
    int many = 0;
    for (int i = 0; i < one.size() || i < other.size(); i++) {
      if (i >= one.size() || i >= other.size() || !one.get(i).equals(other.get(i))) many++;
    }
    return many;
  }

  private int count(int p) {
    List<Integer> faults = new ArrayList<>();
    readOn(robot(p, 2, bytes), true, new ArrayList<>(), faults);
    return faults.size();
  }

  int faults(int p) {
    int not = unclosed(p);
    return not < 0 ? tell(not) : count(p);
  }

  int detect() {
    int best = NONE;
    for (int p = sheets.size() - 1; p >= 0; p--) {
      if (at(p).closed && (best < 0 || count(p) <= count(best))) best = p;
    }
    return tell(best);
  }

  int lengths(int p, int what) {
    int not = unclosed(p);
    if (not < 0) return tell(not);
    if (what < 0 || what > 1) return tell(BEYOND);
    List<Integer> all = new ArrayList<>();
    for (int state : reached(at(p))) {
      all.add(write(p, 0, state, 1000000, units, new ArrayList<>()));
    }
    if (all.contains(MISSING)) return tell(MISSING);
    return what == 0 ? Collections.min(all) : Collections.max(all);
  }

  // ---- pages as bytes

  private static int sum(List<Integer> row) {
    long sum = 0;
    for (int i = 0; i < row.size(); i++) sum += (i + 1L) * row.get(i);
    return (int) (sum % 65521);
  }

  private static List<Integer> packed(Sheet s) {
    List<Integer> out = new ArrayList<>();
    out.add(s.items.size());
    for (Item e : s.items) {
      out.add(e.state);
      out.add(e.text.size());
      out.addAll(e.text);
      out.addAll(cut(e.point, 3, 8));
      out.add(e.preferred ? 1 : 0);
    }
    out.add(s.moves.size());
    for (Move m : s.moves) out.addAll(List.of(m.state, m.value, m.goal, m.sticky ? 1 : 0));
    out.addAll(cut(sum(out), 2, 8));
    return out;
  }

  int send(int p) {
    if (at(p) == null) return tell(BEYOND);
    if (at(p).kind != 0) return tell(KIND);
    if (!at(p).closed) return tell(OPEN);
    return keep(packed(at(p)), 2);
  }

  int receive() {
    if (sheets.size() == 10) return tell(FULL);
    int n = bytes.size();
    if (n < 4 || !cut(sum(bytes.subList(0, n - 2)), 2, 8).equals(bytes.subList(n - 2, n))) {
      return tell(SUM);
    }
    Sheet made = unpacked(new ArrayList<>(bytes.subList(0, n - 2)));
    if (made == null || fault(made) != null) return tell(BAD);
    made.closed = true;
    sheets.add(made);
    return sheets.size() - 1;
  }

  /** The page, or null when the bytes are none; each look at what is not there is a -1. */
  private static Sheet unpacked(List<Integer> row) {
    Sheet s = new Sheet(0);
    int many = next(row);
    if (many > 100) return null;
    for (int i = 0; i < many; i++) {
      int state = next(row);
      int n = next(row);
      if (n < 1 || n > 3) return null;
      List<Integer> text = new ArrayList<>();
      for (int k = 0; k < n; k++) text.add(next(row));
      int point = next(row) * 65536 + next(row) * 256 + next(row);
      int preferred = next(row);
      if (state < 0 || state > 3 || text.contains(-1) || !point(point)) return null;
      if (preferred < 0 || preferred > 1 || find(s, state, text) >= 0) return null;
      s.items.add(new Item(state, text, point, preferred == 1));
    }
    many = next(row);
    if (many < 0 || many > 10) return null;
    for (int i = 0; i < many; i++) {
      Move m = new Move(next(row), next(row), next(row), row.isEmpty() || row.get(0) == 1);
      int sticky = next(row);
      if (m.state < 0 || m.state > 3 || m.goal < 0 || m.goal > 3 || m.state == m.goal) return null;
      if (sticky < 0 || sticky > 1) return null;
      if (s.moves.stream().anyMatch(o -> o.state == m.state && o.value == m.value)) return null;
      s.moves.add(m);
    }
    return row.isEmpty() ? s : null;
  }

  private static int next(List<Integer> row) {
    return row.isEmpty() ? -1 : row.remove(0);
  }

  int told(int what) {
    if (what < 0 || what > 10) return tell(BEYOND);
    return new int[] {place, broken[0], broken[1], broken[2], sheets.size(), bytes.size(),
        units.size(), result.size(), resultKind, fallbacks.size(), findings}[what];
  }
}
