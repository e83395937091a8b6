/** Each promise of the document: ordinary inputs, the edges that it names, and wrong inputs. */
public final class PromisesTest {
  private static final int BEYOND = -1, NONE = -2, KIND = -3, CLOSED = -4, OPEN = -5, FULL = -6, THERE = -7,
      BAD = -8, MALFORMED = -9, MISSING = -10, LOOP = -11, LONG = -12, SUM = -13;
  private static final int TABLE = 0, HIGH = 1, LOW = 2, FEW = 3;
  private static final int REFUSE = 0, SIGN = 1, DROP = 2, KEEP = 3, FALLBACK = 4;
  private static final int[] ODD = {-1, Integer.MIN_VALUE, Integer.MAX_VALUE};

  private static int wrong = 0;
  private static int checks = 0;
  private static String part = "";

  private static void due(String what, long got, long want) {
    checks++;
    if (got != want) {
      wrong++;
      System.out.println(part + ": " + what + " answered " + got + ", due is " + want);
    }
  }

  private static void dueResult(CountedExchange x, int... want) {
    due("told(7)", x.told(7), want.length);
    for (int i = 0; i < want.length; i++) {
      due("result(" + i + ")", x.result(i), want[i]);
    }
    due("result behind the last", x.result(want.length), NONE);
  }

  private static void putBytes(CountedExchange x, int... row) {
    Setups.putBytes(x, row);
  }

  private static void putUnits(CountedExchange x, int... row) {
    Setups.putUnits(x, row);
  }

  private static void repeatUnits(CountedExchange x, int unit, int many) {
    Setups.putUnits(x, Setups.times(many, unit));
  }

  private static void repeatBytes(CountedExchange x, int b, int many) {
    Setups.putBytes(x, Setups.times(many, b));
  }

  /** A closed table, page 0 of a new object: bytes 1, 2, 3 are a, b, c. */
  private static CountedExchange small() {
    CountedExchange x = new CountedExchange();
    x.page(TABLE);
    x.entry(0, 0, 1, 1, 'a');
    x.entry(0, 0, 2, 1, 'b');
    x.entry(0, 0, 3, 1, 'c');
    x.close(0);
    return x;
  }

  /**
   * A closed table, page 0, with four states: 0 has a, 1 has b, 2 has c (by a single shift from 0
   * or 1), 3 has d; sticky 14 leads 0 to 1, 15 leads 1 to 0, 16 leads 1 to 3, 17 leads 3 to 0.
   */
  private static CountedExchange shifting() {
    CountedExchange x = new CountedExchange();
    x.page(TABLE);
    x.shift(0, 0, 14, 1, true);
    x.shift(0, 1, 15, 0, true);
    x.shift(0, 1, 16, 3, true);
    x.shift(0, 3, 17, 0, true);
    x.shift(0, 0, 27, 2, false);
    x.shift(0, 1, 28, 2, false);
    x.entry(0, 0, 65, 1, 'a');
    x.entry(0, 1, 65, 1, 'b');
    x.entry(0, 2, 0x4142, 2, 'c');
    x.entry(0, 3, 0x434445, 3, 'd');
    x.close(0);
    return x;
  }

  private static void promise1() {
    CountedExchange x = new CountedExchange();
    for (int what = 0; what <= 10; what++) {
      due("told(" + what + ")", x.told(what), 0);
    }
    due("detect()", x.detect(), NONE);
    due("result(0)", x.result(0), NONE);
    due("size(0, 0)", x.size(0, 0), BEYOND);
    for (int d = 0; d < 4; d++) {
      due("machine", x.machine(d, 0), NONE);
      due("take", x.take(d), NONE);
      due("feed", x.feed(d, 1), NONE);
      due("end", x.end(d), NONE);
    }
    due("first sign", x.sign(0, 65), 0xFFFD);
    due("second sign", x.sign(1, 65), 63);
    due("fill(2)", x.fill(2), NONE);
    due("fill(3)", x.fill(3), NONE);
    CountedExchange y = new CountedExchange();
    due("sign of another object", y.sign(0, 1), 0xFFFD);
  }

  private static void promise2() {
    CountedExchange x = new CountedExchange();
    for (int odd : new int[] {-1, 4, Integer.MIN_VALUE, Integer.MAX_VALUE}) {
      due("page(" + odd + ")", x.page(odd), BEYOND);
    }
    for (int p = 0; p < 10; p++) {
      due("page", x.page(p % 4), p);
      due("kind", x.size(p, 0), p % 4);
      due("closed", x.size(p, 1), p % 4 == TABLE ? 0 : 1);
    }
    due("the 11th page", x.page(TABLE), FULL);
    due("BEYOND ahead of FULL", x.page(4), BEYOND);
    due("pages", x.told(4), 10);
  }

  private static void promise3() {
    CountedExchange x = shifting();
    due("derive(0)", x.derive(0), 1);
    due("open", x.size(1, 1), 0);
    due("entries", x.size(1, 2), 4);
    due("shifts", x.size(1, 3), 6);
    due("derive of an open page", x.derive(1), OPEN);
    for (int odd : ODD) {
      due("derive(" + odd + ")", x.derive(odd), BEYOND);
    }
    due("derive(2)", x.derive(2), BEYOND);
    x.page(FEW);
    due("derive of FEW", x.derive(2), KIND);
    due("a change of the new page", x.entry(1, 0, 65, 1, 'z'), 1);
    due("a shift goes", x.drop(1, 1, 28, 1), 1);
    due("close", x.close(1), 0);
    due("the new page writes z", x.code(1, 'z'), (1L << 32) + 65);
    due("the old one does not", x.code(0, 'z'), NONE);
    due("the old one writes a", x.code(0, 'a'), (1L << 32) + 65);
    due("the old one's shifts", x.size(0, 3), 6);
    for (int p = 3; p < 10; p++) {
      due("derive of a derived page", x.derive(1), p);
    }
    due("the 11th page", x.derive(1), FULL);
    due("KIND ahead of FULL", x.derive(2), KIND);
    due("OPEN ahead of FULL", x.derive(5), OPEN);
  }

  private static void promise4() {
    CountedExchange x = new CountedExchange();
    due("no page", x.entry(0, 0, 1, 1, 1), BEYOND);
    x.page(TABLE);
    x.page(HIGH);
    due("no table", x.entry(1, 9, 1, 1, 1), KIND);
    due("state 4", x.entry(0, 4, 1, 1, 1), BEYOND);
    due("state -1", x.entry(0, -1, 1, 1, 1), BEYOND);
    due("n 0", x.entry(0, 0, 1, 0, 1), BEYOND);
    due("n 4", x.entry(0, 0, 1, 4, 1), BEYOND);
    due("n odd", x.entry(0, 0, 1, Integer.MIN_VALUE, 1), BEYOND);
    due("bytes -1", x.entry(0, 0, -1, 3, 1), BEYOND);
    for (int n = 1; n <= 3; n++) {
      due("too great", x.entry(0, 0, 1 << (8 * n), n, 1), BEYOND);
      due("greatest", x.entry(0, 0, (1 << (8 * n)) - 1, n, 1), 0);
      due("0", x.entry(0, 3, 0, n, 1), 0);
    }
    due("a half", x.entry(0, 0, 5, 1, 0xD800), BEYOND);
    due("the last half", x.entry(0, 0, 5, 1, 0xDFFF), BEYOND);
    due("a half, not preferred", x.entry(0, 0, 5, 1, -1 - 0xD800), BEYOND);
    due("behind the last point", x.entry(0, 0, 5, 1, 0x110000), BEYOND);
    due("behind the last point, not preferred", x.entry(0, 0, 5, 1, -1 - 0x110000), BEYOND);
    due("least code", x.entry(0, 0, 5, 1, Integer.MIN_VALUE), BEYOND);
    due("greatest code", x.entry(0, 0, 5, 1, Integer.MAX_VALUE), BEYOND);
    due("last point", x.entry(0, 0, 5, 1, 0x10FFFF), 0);
    due("last point, not preferred", x.entry(0, 0, 6, 1, -1 - 0x10FFFF), 0);
    due("point 0, not preferred", x.entry(0, 0, 7, 1, -1), 0);
    due("again", x.entry(0, 0, 7, 1, 0), 1);
    due("the same bytes, longer", x.entry(0, 0, 7, 2, 0), 0);
    due("the same bytes, another state", x.entry(0, 1, 7, 1, 0), 0);
    due("entries", x.size(0, 2), 11);
    promise4Full();
    promise4Number();
  }

  private static void promise4Full() {
    CountedExchange x = new CountedExchange();
    x.page(TABLE);
    for (int i = 0; i < 100; i++) {
      due("entry", x.entry(0, 0, i, 1, i), 0);
    }
    due("the 101st", x.entry(0, 0, 100, 1, 100), FULL);
    due("BEYOND ahead of FULL", x.entry(0, 0, 256, 1, 100), BEYOND);
    due("one that is there", x.entry(0, 0, 99, 1, 200), 1);
    due("entries", x.size(0, 2), 100);
    due("close", x.close(0), 0);
    due("the changed one", x.code(0, 200), (1L << 32) + 99);
    due("what it was", x.code(0, 99), NONE);
    due("CLOSED ahead of BEYOND", x.entry(0, 9, 1, 1, 1), CLOSED);
  }

  private static void promise4Number() {
    CountedExchange x = new CountedExchange();
    x.page(TABLE);
    x.entry(0, 0, 1, 1, 'a');
    x.entry(0, 0, 2, 1, 'b');
    x.entry(0, 0, 1, 1, 'z');
    x.close(0);
    due("send", x.send(0), 18);
    dueResult(x, 2, 0, 1, 1, 0, 0, 'z', 1, 0, 1, 2, 0, 0, 'b', 1, 0, x.result(16), x.result(17));
  }

  private static void promise5() {
    CountedExchange x = new CountedExchange();
    due("no page", x.shift(0, 0, 1, 1, true), BEYOND);
    x.page(TABLE);
    x.page(LOW);
    due("no table", x.shift(1, 9, 1, 1, true), KIND);
    due("state", x.shift(0, 4, 1, 1, true), BEYOND);
    due("state", x.shift(0, -1, 1, 1, true), BEYOND);
    due("goal", x.shift(0, 0, 1, 4, true), BEYOND);
    due("goal", x.shift(0, 0, 1, -1, true), BEYOND);
    due("the same", x.shift(0, 2, 1, 2, true), BEYOND);
    due("byte", x.shift(0, 0, 256, 1, true), BEYOND);
    due("byte", x.shift(0, 0, -1, 1, true), BEYOND);
    due("ordinary", x.shift(0, 0, 255, 1, true), 0);
    due("there", x.shift(0, 0, 255, 2, false), THERE);
    due("of another state", x.shift(0, 1, 255, 0, true), 0);
    for (int i = 2; i < 10; i++) {
      due("ordinary", x.shift(0, 0, i, 1, i % 2 == 0), 0);
    }
    due("the 11th", x.shift(0, 0, 100, 1, true), FULL);
    due("THERE ahead of FULL", x.shift(0, 0, 9, 1, true), THERE);
    due("shifts", x.size(0, 3), 10);
    due("close", x.close(0), 0);
    due("closed", x.shift(0, 9, 100, 1, true), CLOSED);
  }

  private static void promise6() {
    CountedExchange x = new CountedExchange();
    due("no page", x.drop(0, 0, 1, 1), BEYOND);
    x.page(TABLE);
    x.page(FEW);
    due("no table", x.drop(1, 0, 1, 1), KIND);
    x.entry(0, 0, 1, 1, 'a');
    x.entry(0, 0, 2, 2, 'b');
    x.entry(0, 0, 3, 1, 'c');
    x.shift(0, 0, 1, 1, true);
    x.shift(0, 1, 2, 0, true);
    due("state", x.drop(0, 4, 1, 1), BEYOND);
    due("state", x.drop(0, -1, 1, 1), BEYOND);
    due("n", x.drop(0, 0, 1, 0), BEYOND);
    due("n", x.drop(0, 0, 1, 4), BEYOND);
    due("bytes", x.drop(0, 0, 256, 1), BEYOND);
    due("bytes", x.drop(0, 0, -1, 1), BEYOND);
    due("another length", x.drop(0, 0, 2, 1), NONE);
    due("another state", x.drop(0, 1, 1, 1), NONE);
    due("a shift is of one byte", x.drop(0, 1, 2, 2), NONE);
    due("the entry first", x.drop(0, 0, 1, 1), 0);
    due("the shift then", x.drop(0, 0, 1, 1), 1);
    due("nothing then", x.drop(0, 0, 1, 1), NONE);
    due("entries", x.size(0, 2), 2);
    due("shifts", x.size(0, 3), 1);
    x.entry(0, 0, 3, 2, 'd');
    x.entry(0, 0, 4, 1, -1 - 'b');
    x.entry(0, 0, 0x0301, 2, 'e');
    due("no gap: c is entry 1, e is entry 4", x.close(0), BAD);
    due("told(2)", x.told(2), 1);
    due("told(3)", x.told(3), 4);
    due("drop", x.drop(0, 0, 3, 1), 0);
    due("close", x.close(0), 0);
    due("closed", x.drop(0, 9, 1, 1), CLOSED);
  }

  private static void bad(CountedExchange x, int p, int rule, int first, int second) {
    due("close", x.close(p), BAD);
    due("told(1)", x.told(1), rule);
    due("told(2)", x.told(2), first);
    due("told(3)", x.told(3), second);
    due("still open", x.size(p, 1), 0);
  }

  private static void promise7() {
    CountedExchange x = new CountedExchange();
    due("no page", x.close(0), BEYOND);
    x.page(FEW);
    due("no table", x.close(0), KIND);
    x.page(TABLE);
    due("an empty table is good", x.close(1), 0);
    due("closed", x.close(1), CLOSED);
    promise7Clashes();
    promise7Points();
    promise7States();
  }

  private static void promise7Clashes() {
    CountedExchange x = new CountedExchange();
    x.page(TABLE);
    x.entry(0, 0, 0x0102, 2, 'a');
    x.entry(0, 1, 0x01, 1, 'b');
    x.entry(0, 0, 0x010203, 3, 'c');
    bad(x, 0, 1, 0, 2);
    x.entry(0, 0, 0x01, 1, 'd');
    bad(x, 0, 1, 0, 2);
    x.drop(0, 0, 0x010203, 3);
    bad(x, 0, 1, 0, 2);
    x.drop(0, 0, 0x01, 1);
    x.shift(0, 1, 9, 0, true);
    x.shift(0, 0, 9, 1, true);
    x.shift(0, 0, 1, 1, true);
    bad(x, 0, 1, 0, 102);
    x.entry(0, 1, 9, 1, 'e');
    bad(x, 0, 1, 0, 102);
    x.drop(0, 0, 1, 1);
    bad(x, 0, 1, 2, 100);
    x.drop(0, 1, 9, 1);
    due("close", x.close(0), 0);
    due("told stays", x.told(1), 1);
    due("told stays", x.told(3), 100);
  }

  private static void promise7Points() {
    CountedExchange x = new CountedExchange();
    x.page(TABLE);
    x.entry(0, 0, 1, 1, -1 - 'z');
    x.entry(0, 0, 2, 1, 'b');
    x.entry(0, 0, 3, 1, 'b');
    x.entry(0, 0, 4, 1, 'c');
    x.entry(0, 0, 5, 1, -1 - 'c');
    bad(x, 0, 2, 'b', 0);
    x.entry(0, 0, 3, 1, -1 - 'b');
    bad(x, 0, 2, 'z', 0);
    x.entry(0, 3, 6, 1, 'z');
    bad(x, 0, 4, 5, 0);
    x.shift(0, 0, 5, 1, true);
    bad(x, 0, 1, 4, 100);
    x.drop(0, 0, 5, 1);
    bad(x, 0, 3, 1, 0);
  }

  private static void promise7States() {
    CountedExchange x = new CountedExchange();
    x.page(TABLE);
    x.shift(0, 1, 1, 2, true);
    x.shift(0, 0, 2, 3, true);
    x.shift(0, 3, 3, 1, true);
    bad(x, 0, 3, 1, 0);
    x.shift(0, 2, 4, 1, true);
    x.shift(0, 3, 5, 0, true);
    bad(x, 0, 3, 1, 0);
    x.shift(0, 2, 6, 0, false);
    bad(x, 0, 3, 1, 0);
    x.shift(0, 2, 7, 0, true);
    due("a long way home", x.close(0), 0);
    x.page(TABLE);
    x.shift(1, 2, 1, 3, true);
    x.entry(1, 3, 1, 1, -1 - 'a');
    x.entry(1, 0, 1, 1, 'a');
    due("an unreached state without a way is good", x.close(1), 0);
    x.page(TABLE);
    x.entry(2, 2, 1, 1, 'a');
    x.shift(2, 0, 9, 1, false);
    x.shift(2, 1, 9, 2, false);
    bad(x, 2, 4, 0, 0);
    x.shift(2, 1, 8, 2, true);
    bad(x, 2, 4, 0, 0);
    x.shift(2, 0, 8, 2, false);
    due("by a single shift of a reached state", x.close(2), 0);
  }

  private static void promise8() {
    CountedExchange x = shifting();
    x.page(FEW);
    int[] table = {TABLE, 1, 4, 6};
    int[] few = {FEW, 1, 0, 0};
    for (int what = 0; what < 4; what++) {
      due("size(0, " + what + ")", x.size(0, what), table[what]);
      due("size(1, " + what + ")", x.size(1, what), few[what]);
    }
    due("what 4", x.size(0, 4), BEYOND);
    due("what -1", x.size(0, -1), BEYOND);
    due("page 2", x.size(2, 0), BEYOND);
    due("page -1", x.size(-1, 0), BEYOND);
  }

  private static void promise9() {
    CountedExchange x = shifting();
    due("c", x.code(0, 'c'), (2L << 32) + 0x4142);
    due("d", x.code(0, 'd'), (3L << 32) + 0x434445);
    due("e", x.code(0, 'e'), NONE);
    due("a half", x.code(0, 0xD800), BEYOND);
    due("beyond", x.code(0, 0x110000), BEYOND);
    due("beyond", x.code(0, -1), BEYOND);
    due("no page", x.code(1, -1), BEYOND);
    x.derive(0);
    due("open", x.code(1, -1), OPEN);
    x.page(HIGH);
    x.page(LOW);
    x.page(FEW);
    due("HIGH", x.code(2, 0x20AC), (2L << 32) + 0x20AC);
    due("LOW", x.code(3, 0x20AC), (2L << 32) + 0xAC20);
    due("HIGH", x.code(2, 0x1F600), (4L << 32) + 0xD83DDE00L);
    due("LOW", x.code(3, 0x1F600), (4L << 32) + 0x3DD800DEL);
    due("HIGH 0", x.code(2, 0), 2L << 32);
    due("HIGH last", x.code(2, 0x10FFFF), (4L << 32) + 0xDBFFDFFFL);
    due("LOW last", x.code(3, 0x10FFFF), (4L << 32) + 0xFFDBFFDFL);
    due("HIGH 0x10000", x.code(2, 0x10000), (4L << 32) + 0xD800DC00L);
    long[][] few = {{0, 1, 0}, {0x7F, 1, 0x7F}, {0x80, 2, 0xC280}, {0x7FF, 2, 0xDFBF}, {0x800, 3, 0xE0A080},
        {0xD7FF, 3, 0xED9FBF}, {0xE000, 3, 0xEE8080}, {0xFFFF, 3, 0xEFBFBF}, {0x10000, 4, 0xF0908080L},
        {0x1F600, 4, 0xF09F9880L}, {0x10FFFF, 4, 0xF48FBFBFL}};
    for (long[] row : few) {
      due("FEW " + row[0], x.code(4, (int) row[0]), (row[1] << 32) + row[2]);
    }
    due("FEW a half", x.code(4, 0xDFFF), BEYOND);
    CountedExchange y = new CountedExchange();
    y.page(TABLE);
    y.entry(0, 0, 1, 1, -1 - 'a');
    y.entry(0, 0, 2, 1, 'a');
    y.close(0);
    due("the preferred one", y.code(0, 'a'), (1L << 32) + 2);
  }

  private static void promise10() {
    CountedExchange x = new CountedExchange();
    due("n 0", x.bytesIn(1, 0), BEYOND);
    due("n 9", x.bytesIn(1, 9), BEYOND);
    due("n -1", x.bytesIn(1, -1), BEYOND);
    due("8", x.bytesIn(0xFF020304050607F8L, 8), 8);
    due("2", x.bytesIn(-2, 2), 10);
    x.page(FEW);
    x.decode(0, KEEP);
    dueResult(x, 0xDCFF, 2, 3, 4, 5, 6, 7, 0xDCF8, 0xDCFF, 0xDCFE);
    for (int i = 0; i < 123; i++) {
      x.bytesIn(0, 8);
    }
    due("told(5)", x.told(5), 994);
    due("7 too many", x.bytesIn(0, 7), FULL);
    due("BEYOND ahead of FULL", x.bytesIn(0, 9), BEYOND);
    due("6", x.bytesIn(0, 6), 1000);
    due("1", x.bytesIn(0, 1), FULL);
    due("told(5)", x.told(5), 1000);
  }

  private static void promise11() {
    CountedExchange x = new CountedExchange();
    due("n 0", x.unitsIn(1, 0), BEYOND);
    due("n 5", x.unitsIn(1, 5), BEYOND);
    due("4", x.unitsIn(0xFFFF000100020003L, 4), 4);
    due("1", x.unitsIn(-1, 1), 5);
    x.page(HIGH);
    x.encode(0, REFUSE);
    dueResult(x, 255, 255, 0, 1, 0, 2, 0, 3, 255, 255);
    for (int i = 0; i < 248; i++) {
      x.unitsIn(0, 4);
    }
    due("told(6)", x.told(6), 997);
    due("4 too many", x.unitsIn(0, 4), FULL);
    due("3", x.unitsIn(0, 3), 1000);
    due("1", x.unitsIn(0, 1), FULL);
    due("bytes are others", x.told(5), 0);
  }

  private static void promise12() {
    CountedExchange x = small();
    due("what", x.fill(4), BEYOND);
    due("what", x.fill(-1), BEYOND);
    putBytes(x, 1, 2, 3);
    putUnits(x, 'a', 'b');
    due("empties", x.fill(0), 3);
    due("empties", x.fill(0), 0);
    due("the units stay", x.told(6), 2);
    due("empties", x.fill(1), 2);
    putBytes(x, 1, 2, 3);
    x.decode(0, REFUSE);
    due("it is of units", x.fill(2), NONE);
    putUnits(x, 'c');
    due("to the units", x.fill(3), 3);
    due("in place of what was there", x.told(6), 3);
    due("the result stays", x.told(7), 3);
    due("the result stays", x.told(8), 1);
    due("again", x.fill(3), 3);
    x.encode(0, REFUSE);
    due("it is of bytes", x.fill(3), NONE);
    due("to the bytes", x.fill(2), 3);
    x.page(HIGH);
    repeatUnits(x, 'a', 500);
    x.encode(1, REFUSE);
    due("1000", x.fill(2), 1000);
    repeatUnits(x, 'a', 501);
    x.encode(1, REFUSE);
    due("1002", x.fill(2), FULL);
    due("NONE ahead of FULL", x.fill(3), NONE);
    due("the bytes stay", x.told(5), 1000);
    x.fill(1);
    x.encode(1, REFUSE);
    due("an empty result is one", x.fill(2), 0);
  }

  private static void promise13() {
    CountedExchange x = shifting();
    x.page(TABLE);
    due("no page", x.decode(2, 9), BEYOND);
    due("open", x.decode(1, 9), OPEN);
    due("rule", x.decode(0, 4), BEYOND);
    due("rule", x.decode(0, -1), BEYOND);
    putBytes(x, 65, 27, 0x41, 0x42, 14, 65, 28, 0x41, 0x42, 65, 16, 0x43, 0x44, 0x45, 17, 65);
    due("shifts", x.decode(0, REFUSE), 7);
    dueResult(x, 'a', 'c', 'b', 'c', 'b', 'd', 'a');
    putBytes(x, 65, 27, 65, 65);
    due("a part of a pending state's text", x.decode(0, REFUSE), MALFORMED);
    due("place", x.told(0), 2);
    due("the result stays", x.told(7), 7);
    due("sign", x.decode(0, SIGN), 3);
    dueResult(x, 'a', 0xFFFD, 'a');
    due("no shift while one is pending", pendingShift(x), MALFORMED);
    due("place", x.told(0), 1);
    due("keep", x.decode(0, KEEP), 2);
    dueResult(x, 0xDC0E, 'a');
    x.sign(0, 0x1F600);
    due("a sign of two units", x.decode(0, SIGN), 3);
    dueResult(x, 0xD83D, 0xDE00, 'a');
    putBytes(x, 14, 16, 0x43, 0x44);
    due("drop at the end", x.decode(0, DROP), 0);
    due("a result without values", x.told(8), 1);
    due("faults", x.faults(0), 2);
    putBytes(x, 65, 27);
    due("pending at the end is no fault", x.decode(0, REFUSE), 1);
    x.fill(0);
    due("no bytes", x.decode(0, REFUSE), 0);
    promise13Forms();
  }

  private static int pendingShift(CountedExchange x) {
    putBytes(x, 27, 14, 65);
    return x.decode(0, REFUSE);
  }

  private static void promise13Forms() {
    CountedExchange x = new CountedExchange();
    x.page(HIGH);
    x.page(LOW);
    x.page(FEW);
    putBytes(x, 0xD8, 0x3D, 0x41, 0xDC, 0x42, 0xDC, 0x00, 0x43, 0x44);
    due("HIGH", x.decode(0, KEEP), 6);
    dueResult(x, 0xDCD8, 0x3D41, 0xDCDC, 0x42DC, 0x0043, 0xDC44);
    putBytes(x, 0x3D, 0xD8, 0x00, 0xDE, 0x3D, 0xD8, 0x41, 0x00, 0x00, 0xDC, 0x44);
    due("LOW", x.decode(1, KEEP), 6);
    dueResult(x, 0xD83D, 0xDE00, 0xDC3D, 0x41D8, 0x0000, 0x44DC);
    putBytes(x, 0xC0, 0x80, 0xC1, 0xBF, 0xC2, 0x80, 0xE0, 0x9F, 0xBF, 0xE0, 0xA0, 0x80);
    due("FEW short ones", x.decode(2, KEEP), 9);
    dueResult(x, 0xDCC0, 0xDC80, 0xDCC1, 0xDCBF, 0x80, 0xDCE0, 0xDC9F, 0xDCBF, 0x800);
    putBytes(x, 0xED, 0x9F, 0xBF, 0xED, 0xA0, 0x80, 0xEE, 0x80, 0x80);
    due("FEW halves", x.decode(2, SIGN), 5);
    dueResult(x, 0xD7FF, 0xFFFD, 0xFFFD, 0xFFFD, 0xE000);
    putBytes(x, 0xF0, 0x8F, 0xBF, 0xBF, 0xF0, 0x90, 0x80, 0x80, 0xF4, 0x8F, 0xBF, 0xBF, 0xF4, 0x90, 0x80, 0x80);
    due("FEW long ones", x.decode(2, SIGN), 12);
    due("the last point", x.result(6), 0xDBFF);
    due("the last point", x.result(7), 0xDFFF);
    due("behind it", x.result(8), 0xFFFD);
    putBytes(x, 0xE2, 0x82, 0x41, 0xF8, 0xFF, 0xE2, 0x82);
    due("FEW cut", x.decode(2, KEEP), 7);
    due("FEW cut", x.result(2), 0x41);
    due("FEW cut", x.decode(2, REFUSE), MALFORMED);
    due("place", x.told(0), 0);
    putBytes(x, 0xF8, 0x90, 0x80, 0x80, 0xF5, 0x80, 0x80, 0x80, 0xC0, 0x80);
    due("FEW: no such first bytes", x.faults(2), 10);
  }

  private static void promise14() {
    CountedExchange x = shifting();
    x.page(TABLE);
    due("no page", x.encode(2, 9), BEYOND);
    due("open", x.encode(1, 9), OPEN);
    due("rule", x.encode(0, 5), BEYOND);
    due("rule", x.encode(0, -1), BEYOND);
    putUnits(x, 'a', 'c', 'b', 'c', 'b', 'd', 'a', 'd');
    due("shifts", x.encode(0, REFUSE), 22);
    dueResult(x, 65, 27, 0x41, 0x42, 14, 65, 28, 0x41, 0x42, 65, 16, 0x43, 0x44, 0x45, 17, 65,
        14, 16, 0x43, 0x44, 0x45, 17);
  }

  private static void promise14Rules() {
    CountedExchange x = shifting();
    putUnits(x, 'b', 'x', 0xD83D, 0xDE00, 0xDC41, 'b', 0xD800);
    due("refuse", x.encode(0, REFUSE), MISSING);
    due("place", x.told(0), 1);
    due("the result stays", x.told(8), 0);
    due("drop", x.encode(0, DROP), 4);
    dueResult(x, 14, 65, 65, 15);
    due("a sign without an entry", x.encode(0, SIGN), 4);
    x.sign(1, 'a');
    due("a sign is shifted to", x.encode(0, SIGN), 10);
    dueResult(x, 14, 65, 15, 65, 65, 65, 14, 65, 15, 65);
    due("keep", x.encode(0, KEEP), MISSING);
    due("place", x.told(0), 1);
    putUnits(x, 'b', 0xDC41, 0xDCFF, 0xDC00, 'b', 0xDD00);
    due("keep: above 0xDCFF", x.encode(0, KEEP), MISSING);
    due("place", x.told(0), 5);
    putUnits(x, 'b', 0xDC41, 0xDCFF, 0xDC00, 'b');
    due("keep: as they are", x.encode(0, KEEP), 7);
    dueResult(x, 14, 65, 0x41, 0xFF, 0, 65, 15);
    putUnits(x, 'b', 0xDC41, 0xD800);
    due("keep: a high half", x.encode(0, KEEP), MISSING);
    due("place", x.told(0), 2);
    putUnits(x, 0xD83D, 0xDC41);
    due("keep: a pair is a point", x.encode(0, KEEP), MISSING);
    due("place", x.told(0), 0);
    putUnits(x, 0xD800, 0xD83D, 0xDE00);
    x.page(FEW);
    due("a high half ahead of a pair", x.encode(1, DROP), 4);
  }

  private static void promise14Ways() {
    CountedExchange x = new CountedExchange();
    x.page(TABLE);
    x.shift(0, 0, 200, 1, true);
    x.shift(0, 0, 100, 2, true);
    x.shift(0, 1, 1, 3, true);
    x.shift(0, 2, 2, 3, false);
    x.shift(0, 3, 50, 1, true);
    x.shift(0, 1, 60, 0, true);
    x.shift(0, 1, 40, 0, true);
    x.shift(0, 2, 61, 0, true);
    x.shift(0, 3, 62, 2, true);
    x.entry(0, 3, 9, 1, 'a');
    x.entry(0, 1, 9, 1, 'b');
    due("close", x.close(0), 0);
    putUnits(x, 'a', 'a', 'b', 'a', 'a');
    due("ways", x.encode(0, REFUSE), 13);
    dueResult(x, 100, 2, 9, 2, 9, 61, 200, 9, 1, 9, 9, 50, 40);
  }

  private static void promise14Fallbacks() {
    CountedExchange x = shifting();
    putUnits(x, 'b', 'c');
    x.fallback('x');
    putUnits(x, 'x', 'a', 'x');
    x.fallback('y');
    putUnits(x, 'd', 'q');
    x.fallback('z');
    putUnits(x, 'y');
    due("fallback", x.encode(0, FALLBACK), 13);
    dueResult(x, 14, 65, 28, 0x41, 0x42, 15, 65, 14, 65, 28, 0x41, 0x42, 15);
    putUnits(x, 'a', 'z');
    due("refused whole", x.encode(0, FALLBACK), MISSING);
    due("place", x.told(0), 1);
    putUnits(x, 'q', 'd');
    x.fallback('w');
    putUnits(x, 'w');
    due("refused whole, ahead of d", x.encode(0, FALLBACK), MISSING);
    putUnits(x, 'x');
    due("nothing of it is left", x.encode(0, FALLBACK), 6);
    dueResult(x, 14, 65, 28, 0x41, 0x42, 15);
    putUnits(x, 'a', 0xDC41);
    due("a lone half", x.encode(0, FALLBACK), MISSING);
    putUnits(x, 'x');
    due("only under FALLBACK", x.encode(0, REFUSE), MISSING);
    putUnits(x, 'q');
    x.fallback('a');
    putUnits(x, 'a');
    due("an entry goes ahead of a fallback", x.encode(0, FALLBACK), 1);
  }

  /** By fallbacks x is six bytes, w seven; v is six and one that is missing. */
  private static CountedExchange sixes() {
    CountedExchange x = small();
    Setups.giveFallback(x, 'y', 'a', 'a', 'a');
    Setups.giveFallback(x, 'x', 'y', 'y');
    Setups.giveFallback(x, 'w', 'x', 'a');
    Setups.giveFallback(x, 'v', 'x', 'q');
    return x;
  }

  private static void promise14Full() {
    CountedExchange x = sixes();
    repeatUnits(x, 'x', 1000);
    due("just 6000", x.encode(0, FALLBACK), 6000);
    due("the last", x.result(5999), 1);
    due("to the bytes", x.fill(2), FULL);
    CountedExchange y = sixes();
    y.fill(1);
    y.encode(0, REFUSE);
    repeatUnits(y, 'x', 996);
    y.unitsIn(0x0077007800780078L, 4);
    due("one more", y.encode(0, FALLBACK), FULL);
    due("the result stays", y.told(7), 0);
    CountedExchange z = sixes();
    repeatUnits(z, 'x', 996);
    z.unitsIn(0x0077007800780076L, 4);
    due("missing behind 5995", z.encode(0, FALLBACK), MISSING);
    due("place", z.told(0), 999);
    CountedExchange w = sixes();
    repeatUnits(w, 'w', 996);
    w.unitsIn('q', 1);
    due("full ahead of missing", w.encode(0, FALLBACK), FULL);
    due("no place", w.told(0), 0);
  }

  /** d from state 0 is 14 16 and three bytes, a from state 3 is 17 and a byte: 7, so 14 for x. */
  private static void promise14EndFull() {
    CountedExchange x = shifting();
    putUnits(x, 'd', 'a');
    x.fallback('y');
    putUnits(x, 'y', 'y');
    x.fallback('x');
    repeatUnits(x, 'x', 428);
    due("428 times 14", x.encode(0, FALLBACK), 5992);
    x.unitsIn(0x006100610064L, 3);
    due("5999 and the end", x.encode(0, FALLBACK), 6000);
    repeatUnits(x, 'x', 428);
    x.unitsIn(0x0061006100610064L, 4);
    due("6000 and the end", x.encode(0, FALLBACK), FULL);
    due("the result stays", x.told(7), 6000);
  }

  private static void promise15() {
    CountedExchange x = shifting();
    x.page(FEW);
    x.page(TABLE);
    due("no page", x.transcode(3, 0, 0, 0), BEYOND);
    due("no page", x.transcode(2, 0, 3, 0), BEYOND);
    due("open", x.transcode(2, 9, 0, 0), OPEN);
    due("open", x.transcode(0, 9, 2, 0), OPEN);
    due("rule", x.transcode(0, 4, 1, 0), BEYOND);
    due("rule", x.transcode(0, 0, 1, 5), BEYOND);
    due("rule", x.transcode(0, -1, 1, 0), BEYOND);
    due("rule", x.transcode(0, 0, 1, -1), BEYOND);
    putUnits(x, 'q');
    putBytes(x, 'b', 'a', 0xC3, 'd');
    due("malformed", x.transcode(1, REFUSE, 0, DROP), MALFORMED);
    due("place", x.told(0), 2);
    due("drop", x.transcode(1, DROP, 0, REFUSE), 10);
    dueResult(x, 14, 65, 15, 65, 14, 16, 0x43, 0x44, 0x45, 17);
    due("keep and keep", x.transcode(1, KEEP, 0, KEEP), 11);
    due("the byte", x.result(4), 0xC3);
    due("missing", x.transcode(1, KEEP, 0, REFUSE), MISSING);
    due("place", x.told(0), 2);
    x.sign(0, 0x1F600);
    putBytes(x, 0xFF, 'a', 'q');
    due("missing", x.transcode(1, SIGN, 0, REFUSE), MISSING);
    due("place", x.told(0), 0);
    x.sign(1, 'a');
    putBytes(x, 0xFF, 'a', 'q');
    due("sign and sign", x.transcode(1, SIGN, 0, SIGN), 3);
    due("the units stay", x.told(6), 1);
    due("the bytes stay", x.told(5), 3);
    putBytes(x, 0xFF, 'a', 'q');
    x.sign(0, 'a');
    due("place among the units", x.transcode(1, SIGN, 0, REFUSE), MISSING);
    due("place", x.told(0), 2);
    x.sign(0, 0x10FFFF);
    x.page(HIGH);
    repeatBytes(x, 0xFF, 1000);
    due("2000 units", x.transcode(1, SIGN, 3, REFUSE), 4000);
    due("as 4000 bytes of FEW", x.transcode(1, SIGN, 1, REFUSE), 4000);
    putUnits(x, 'a', 'a', 'a', 'a');
    x.fallback('y');
    putUnits(x, 'y', 'y');
    x.fallback(0x10FFFF);
    due("8000", x.transcode(1, SIGN, 0, FALLBACK), FULL);
  }

  private static void promise16() {
    CountedExchange x = small();
    due("none", x.result(0), NONE);
    putBytes(x, 1, 2);
    x.decode(0, REFUSE);
    due("0", x.result(0), 'a');
    due("1", x.result(1), 'b');
    for (int i : new int[] {-1, 2, 6000, Integer.MAX_VALUE, Integer.MIN_VALUE}) {
      due("result(" + i + ")", x.result(i), NONE);
    }
  }

  private static void promise17() {
    CountedExchange x = new CountedExchange();
    due("first", x.sign(0, 0x10FFFF), 0xFFFD);
    due("second", x.sign(1, 0), 63);
    due("first", x.sign(0, 1), 0x10FFFF);
    due("second", x.sign(1, 1), 0);
    for (int which : new int[] {-1, 2, Integer.MAX_VALUE}) {
      due("which", x.sign(which, 1), BEYOND);
    }
    for (int point : new int[] {-1, 0xD800, 0xDFFF, 0x110000}) {
      due("point", x.sign(0, point), BEYOND);
    }
    due("stays", x.sign(0, 2), 1);
  }

  private static void promise18() {
    CountedExchange x = new CountedExchange();
    putUnits(x, 'a');
    for (int point : new int[] {-1, 0xD800, 0xDFFF, 0x110000}) {
      due("point", x.fallback(point), BEYOND);
    }
    due("ordinary", x.fallback('b'), 1);
    due("the units are gone", x.told(6), 0);
    putUnits(x, 'a', 'a', 'a', 'a', 'a');
    due("five", x.fallback('c'), BAD);
    due("the units stay", x.told(6), 5);
    putUnits(x, 'a', 0xD800);
    due("a lone half", x.fallback('c'), BAD);
    putUnits(x, 0xDC00);
    due("a lone half", x.fallback('c'), BAD);
    putUnits(x, 0xD83D, 0xDE00, 0xD83D, 0xDE00, 0xD83D, 0xDE00, 0xD83D, 0xDE00);
    due("four points of eight units", x.fallback('c'), 2);
    putUnits(x, 'd');
    due("itself", x.fallback('d'), LOOP);
    putUnits(x, 'b');
    due("a loop of two", x.fallback('a'), LOOP);
    due("told(9)", x.told(9), 2);
    x.fill(1);
    due("none had", x.fallback('z'), 2);
    due("one goes", x.fallback('b'), 1);
    putUnits(x, 'b');
    due("no loop any more", x.fallback('a'), 2);
    promise18Long();
    promise18Full();
  }

  private static void promise18Long() {
    CountedExchange x = new CountedExchange();
    putUnits(x, 'a', 'a', 'a', 'a');
    x.fallback(200);
    putUnits(x, 200, 200, 200, 200);
    due("16", x.fallback(201), 2);
    putUnits(x, 201);
    due("16", x.fallback(202), 3);
    putUnits(x, 201, 'a');
    due("17", x.fallback(203), LONG);
    due("the units stay", x.told(6), 2);
    putUnits(x, 'b', 'b');
    due("one that others hold", x.fallback('a'), LONG);
    putUnits(x, 202);
    due("a loop", x.fallback('a'), LOOP);
    putUnits(x, 203);
    due("of the same length", x.fallback('a'), 4);
    putUnits(x, 'a', 'a', 'a');
    due("in its place", x.fallback(200), 4);
    putUnits(x, 201, 'a', 'b', 'c');
    due("15 and 1, as 200 is short now", x.fallback(204), 5);
    putUnits(x, 201, 201);
    due("LOOP ahead of LONG", x.fallback(203), LOOP);
  }

  private static void promise18Full() {
    CountedExchange x = new CountedExchange();
    for (int i = 0; i < 40; i++) {
      putUnits(x, i == 0 ? 'a' : 999 + i);
      due("a chain", x.fallback(1000 + i), i + 1);
    }
    putUnits(x, 'a');
    due("the 41st", x.fallback(2000), FULL);
    putUnits(x, 'a', 0xD800);
    due("BAD ahead of FULL", x.fallback(2000), BAD);
    x.fill(1);
    due("none, without units", x.fallback(2000), 40);
    putUnits(x, 'a', 'b');
    due("one that has one", x.fallback(1000), 40);
    x.page(TABLE);
    x.entry(0, 0, 1, 1, 'a');
    x.entry(0, 0, 2, 1, 'b');
    x.close(0);
    putUnits(x, 1039);
    due("along the chain", x.encode(0, FALLBACK), 2);
    putUnits(x, 1039, 'b');
    due("a loop of 40", x.fallback(1000), LOOP);
    promise18Backwards();
    x.fill(1);
    due("one goes", x.fallback(1020), 39);
    putUnits(x, 1039);
    due("the chain is cut", x.encode(0, FALLBACK), MISSING);
  }

  private static void promise18Backwards() {
    CountedExchange x = new CountedExchange();
    for (int i = 0; i < 40; i++) {
      putUnits(x, 1001 + i);
      due("a chain, its last part last", x.fallback(1000 + i), i + 1);
    }
    putUnits(x, 1000);
    due("a loop of 40", x.fallback(1039), LOOP);
    putUnits(x, 'a', 'a', 'a', 'a');
    due("its last part is longer now", x.fallback(1039), 40);
    putUnits(x, 1039, 1039, 1039, 1039);
    due("and longer", x.fallback(1038), 40);
    putUnits(x, 1001, 'a');
    due("too long", x.fallback(1000), LONG);
  }

  private static void promise19() {
    CountedExchange x = small();
    x.page(TABLE);
    for (int d : new int[] {-1, 4, Integer.MIN_VALUE}) {
      due("machine", x.begin(d, 0, true, 0), BEYOND);
    }
    due("page", x.begin(0, 2, true, 9), BEYOND);
    due("page", x.begin(0, -1, true, 9), BEYOND);
    due("open", x.begin(0, 1, true, 9), OPEN);
    due("rule", x.begin(0, 0, false, 4), BEYOND);
    due("rule", x.begin(0, 0, true, 5), BEYOND);
    due("rule", x.begin(0, 0, true, -1), BEYOND);
    due("still not begun", x.machine(0, 0), NONE);
    due("begin", x.begin(0, 0, true, 4), 0);
    due("begin", x.begin(3, 0, false, 3), 0);
    x.feed(0, 'a');
    x.feed(0, 0xD800);
    due("anew", x.begin(0, 0, true, 0), 0);
    int[] want = {0, 0, 4, 0, 0};
    for (int what = 0; what < 5; what++) {
      due("machine(0, " + what + ")", x.machine(0, what), want[what]);
    }
    due("a finding leaves it", x.begin(3, 0, false, 4), BEYOND);
    due("a finding leaves it", x.machine(3, 4), 0);
    x.feed(0, 'q');
    due("over", x.machine(0, 4), 2);
    due("place", x.told(0), 0);
    due("anew", x.begin(0, 0, false, 0), 0);
    due("reads now", x.feed(0, 1), 1);
  }

  private static void promise20() {
    CountedExchange x = shifting();
    due("machine", x.feed(4, 0), BEYOND);
    due("machine", x.feed(-1, 0), BEYOND);
    due("not begun", x.feed(0, -1), NONE);
    x.begin(0, 0, false, REFUSE);
    due("no byte", x.feed(0, 256), BEYOND);
    due("no byte", x.feed(0, -1), BEYOND);
    x.begin(1, 0, true, REFUSE);
    due("no unit", x.feed(1, 65536), BEYOND);
    due("no unit", x.feed(1, -1), BEYOND);
    int[] row = {65, 14, 28, 65};
    int[] want = {1, 1, 1, 1};
    int[] pending = {4, 4, 2, 2};
    int[] keeps = {0, 0, 0, 1};
    for (int i = 0; i < row.length; i++) {
      due("feed " + i, x.feed(0, row[i]), want[i]);
      due("pending " + i, x.machine(0, 2), pending[i]);
      due("keeps " + i, x.machine(0, 3), keeps[i]);
    }
    due("malformed", x.feed(0, 65), MALFORMED);
    due("place: the kept one", x.told(0), 3);
    due("state", x.machine(0, 1), 1);
    due("pending", x.machine(0, 2), 4);
    due("keeps", x.machine(0, 3), 0);
    due("what came ahead still waits", x.machine(0, 0), 1);
    due("over", x.feed(0, 65), NONE);
    due("over: NONE ahead of BEYOND", x.feed(0, 300), NONE);
    promise20Writes(x);
    promise20Kept();
    promise20Full();
  }

  private static void promise20Writes(CountedExchange x) {
    due("b", x.feed(1, 'b'), 2);
    due("state", x.machine(1, 1), 1);
    due("pending", x.machine(1, 2), 4);
    due("a high half", x.feed(1, 0xD83D), 2);
    due("keeps", x.machine(1, 3), 1);
    due("its low half: a point that is missing", x.feed(1, 0xDE00), MISSING);
    due("place: its first unit", x.told(0), 1);
    due("state", x.machine(1, 1), 1);
    due("over", x.machine(1, 4), 2);
    x.begin(1, 0, true, REFUSE);
    x.feed(1, 'a');
    x.feed(1, 0xD83D);
    due("a lone one", x.feed(1, 'a'), MISSING);
    due("place", x.told(0), 1);
    due("what waits", x.machine(1, 0), 1);
    x.begin(1, 0, true, SIGN);
    x.sign(1, 'b');
    due("high", x.feed(1, 0xD83D), 0);
    due("high again: the first is lone", x.feed(1, 0xD83E), 2);
    due("keeps the second", x.machine(1, 3), 1);
    due("then a", x.feed(1, 'a'), 5);
    x.begin(1, 0, true, FALLBACK);
    putUnits(x, 'b', 'd', 'q');
    x.fallback('x');
    x.feed(1, 'a');
    due("refused whole", x.feed(1, 'x'), MISSING);
    due("state as ahead", x.machine(1, 1), 0);
    due("waits as ahead", x.machine(1, 0), 1);
    x.begin(1, 0, true, KEEP);
    due("kept byte", x.feed(1, 0xDCFE), 1);
    due("kept byte", x.take(1), 0xFE);
    due("not kept", x.feed(1, 0xDD00), MISSING);
    due("place", x.told(0), 1);
  }

  private static void promise20Kept() {
    CountedExchange x = new CountedExchange();
    x.page(HIGH);
    x.page(LOW);
    x.page(FEW);
    int[][] high = {{0xDC, 1, 0}, {0xD8, 1, 1}, {0x00, 1, 2}, {0xDC, 1, 3}, {0x01, 3, 0}, {0xD8, 3, 1},
        {0x41, 3, 2}, {0x42, 5, 0}, {0x43, 5, 1}, {0x44, 6, 0}};
    feedRow(x, 0, high);
    int[][] low = {{0xDC, 0, 1}, {0xDC, 1, 1}, {0xD8, 1, 2}, {0x00, 1, 3}, {0x41, 3, 1}};
    feedRow(x, 1, low);
    int[][] few = {{0xC0, 1, 0}, {0xE0, 1, 1}, {0x9F, 3, 0}, {0xED, 3, 1}, {0xA0, 5, 0}, {0xF4, 5, 1},
        {0x90, 7, 0}, {0xF0, 7, 1}, {0x9F, 7, 2}, {0x98, 7, 3}, {0x41, 11, 0}, {0xF5, 12, 0}, {0xF0, 12, 1},
        {0x8F, 14, 0}, {0xE2, 14, 1}, {0xC3, 15, 1}, {0xA9, 16, 0}};
    feedRow(x, 2, few);
  }

  /** Rows of a byte, how many wait then, how many are kept then; under SIGN. */
  private static void feedRow(CountedExchange x, int p, int[][] rows) {
    x.begin(0, p, false, SIGN);
    for (int i = 0; i < rows.length; i++) {
      due("page " + p + ", feed " + i, x.feed(0, rows[i][0]), rows[i][1]);
      due("page " + p + ", keeps " + i, x.machine(0, 3), rows[i][2]);
    }
  }

  private static void promise20Full() {
    CountedExchange x = new CountedExchange();
    x.page(HIGH);
    x.begin(0, 0, true, REFUSE);
    for (int i = 1; i <= 150; i++) {
      due("feed", x.feed(0, 'a'), 2 * i);
    }
    due("300 are not more than 300", x.feed(0, 'b'), 302);
    due("full", x.feed(0, 'c'), FULL);
    due("BEYOND ahead of FULL", x.feed(0, -1), BEYOND);
    due("end", x.end(0), FULL);
    due("goes on", x.machine(0, 4), 0);
    due("take", x.take(0), 0);
    due("full", x.feed(0, 'c'), FULL);
    due("take", x.take(0), 'a');
    due("feed", x.feed(0, 'c'), 302);
    for (int i = 0; i < 298; i++) {
      due("take", x.take(0), i % 2 == 0 ? 0 : 'a');
    }
    int[] left = {0, 'b', 0, 'c'};
    for (int value : left) {
      due("take", x.take(0), value);
    }
    due("take", x.take(0), NONE);
    due("missing has the place among all that was fed", x.feed(0, 0xDC00), MISSING);
    due("place", x.told(0), 152);
  }

  private static void promise21() {
    CountedExchange x = shifting();
    due("machine", x.end(4), BEYOND);
    due("machine", x.end(-1), BEYOND);
    due("not begun", x.end(0), NONE);
    x.begin(0, 0, true, REFUSE);
    x.feed(0, 'd');
    due("state", x.machine(0, 1), 3);
    due("the end", x.end(0), 6);
    int[] want = {6, 0, 4, 0, 1};
    for (int what = 0; what < 5; what++) {
      due("machine(0, " + what + ")", x.machine(0, what), want[what]);
    }
    due("ended", x.end(0), NONE);
    due("ended", x.feed(0, 'a'), NONE);
    for (int value : new int[] {14, 16, 0x43, 0x44, 0x45, 17}) {
      due("take", x.take(0), value);
    }
    x.begin(0, 0, true, REFUSE);
    x.feed(0, 'b');
    x.feed(0, 0xD800);
    due("a lone half", x.end(0), MISSING);
    due("place", x.told(0), 1);
    due("over", x.machine(0, 4), 2);
    due("state as ahead", x.machine(0, 1), 1);
    x.begin(0, 0, true, DROP);
    x.feed(0, 'b');
    x.feed(0, 0xD800);
    due("a lone half", x.end(0), 3);
    x.begin(0, 0, true, DROP);
    x.feed(0, 0xD800);
    due("nothing comes of it", x.end(0), 0);
    due("ended", x.machine(0, 4), 1);
    promise21Reads(x);
    promise21Full();
  }

  private static void promise21Full() {
    CountedExchange x = new CountedExchange();
    x.page(HIGH);
    x.begin(0, 0, true, REFUSE);
    x.begin(1, 0, true, REFUSE);
    for (int i = 0; i < 150; i++) {
      x.feed(0, 'a');
      x.feed(1, 'a');
    }
    due("300 are not more than 300", x.end(0), 300);
    due("ended", x.machine(0, 4), 1);
    x.feed(1, 'a');
    due("302", x.end(1), FULL);
    due("goes on", x.machine(1, 4), 0);
    x.take(1);
    x.take(1);
    due("300", x.end(1), 300);
  }

  private static void promise21Reads(CountedExchange x) {
    x.begin(0, 0, false, REFUSE);
    x.feed(0, 14);
    x.feed(0, 28);
    due("pending is no fault", x.end(0), 0);
    due("pending", x.machine(0, 2), 4);
    due("the state of one that reads", x.machine(0, 1), 1);
    x.begin(0, 0, false, REFUSE);
    x.feed(0, 14);
    x.feed(0, 28);
    x.feed(0, 65);
    due("kept", x.end(0), MALFORMED);
    due("place", x.told(0), 2);
    due("over", x.machine(0, 4), 2);
    due("keeps", x.machine(0, 3), 0);
    due("pending", x.machine(0, 2), 4);
    x.begin(0, 0, false, KEEP);
    x.feed(0, 14);
    x.feed(0, 28);
    x.feed(0, 65);
    due("kept", x.end(0), 1);
    due("kept", x.take(0), 0xDC41);
    x.page(TABLE);
    x.entry(1, 0, 0x414243, 3, 'x');
    x.entry(1, 0, 0x42, 1, 'y');
    x.close(1);
    x.begin(0, 1, false, KEEP);
    x.feed(0, 0x41);
    due("keeps", x.feed(0, 0x42), 0);
    due("read as it is", x.end(0), 2);
    due("take", x.take(0), 0xDC41);
    due("take", x.take(0), 'y');
  }

  private static void promise22() {
    CountedExchange x = small();
    due("machine", x.take(4), BEYOND);
    due("machine", x.take(-1), BEYOND);
    due("not begun", x.take(0), NONE);
    x.begin(0, 0, false, REFUSE);
    due("nothing", x.take(0), NONE);
    x.feed(0, 1);
    x.feed(0, 2);
    x.feed(0, 99);
    due("over: what came ahead", x.take(0), 'a');
    due("over: what came ahead", x.take(0), 'b');
    due("nothing", x.take(0), NONE);
  }

  private static void promise23() {
    CountedExchange x = small();
    due("machine", x.machine(4, 0), BEYOND);
    due("machine", x.machine(-1, 9), BEYOND);
    due("NONE ahead of BEYOND", x.machine(0, 9), NONE);
    x.begin(0, 0, false, REFUSE);
    due("what", x.machine(0, 5), BEYOND);
    due("what", x.machine(0, -1), BEYOND);
    due("others are not begun", x.machine(1, 0), NONE);
    due("goes on", x.machine(0, 4), 0);
    x.end(0);
    due("ended", x.machine(0, 4), 1);
  }

  private static void promise24() {
    CountedExchange x = small();
    x.page(TABLE);
    x.page(FEW);
    due("no page", x.coverage(3, -1, 0), BEYOND);
    due("open", x.coverage(1, -1, 0), OPEN);
    due("from", x.coverage(0, -1, 0), BEYOND);
    due("to", x.coverage(0, 0x10FFFF, 0x110000), BEYOND);
    due("from", x.coverage(0, 0x110000, 0x110000), BEYOND);
    due("backwards", x.coverage(0, 5, 4), BEYOND);
    due("far", x.coverage(0, 0, 65536), BEYOND);
    due("wide", x.coverage(0, Integer.MIN_VALUE, Integer.MAX_VALUE), BEYOND);
    due("just", x.coverage(0, 0, 65535), 3);
    due("one", x.coverage(0, 'b', 'b'), 1);
    due("two", x.coverage(0, 'b', 'z'), 2);
    due("none", x.coverage(0, 'd', 'z'), 0);
    due("halves", x.coverage(2, 0xD800, 0xDFFF), 0);
    due("halves", x.coverage(2, 0xD7FF, 0xE000), 2);
    due("halves", x.coverage(2, 0xDFFF, 0xE000), 1);
    due("halves", x.coverage(2, 0xD900, 0xDA00), 0);
    due("last", x.coverage(2, 0x10FFFF, 0x10FFFF), 1);
    due("many", x.coverage(2, 0x10000, 0x1FFFF), 65536);
    CountedExchange y = new CountedExchange();
    y.page(TABLE);
    y.entry(0, 0, 1, 1, 'a');
    y.entry(0, 0, 2, 1, -1 - 'a');
    y.close(0);
    due("a point with two entries", y.coverage(0, 0, 255), 1);
  }

  private static void promise25() {
    CountedExchange x = shifting();
    x.derive(0);
    due("open", x.differ(0, 1, -1), OPEN);
    due("open", x.differ(1, 0, -1), OPEN);
    due("no page", x.differ(1, 2, 0), BEYOND);
    due("no page", x.differ(-1, 0, 0), BEYOND);
    due("a shift goes", x.drop(1, 3, 17, 1), 1);
    due("another comes", x.shift(1, 3, 18, 0, true), 0);
    due("a point that only one has", x.entry(1, 0, 99, 1, 0x2000), 0);
    x.entry(1, 0, 98, 1, -1 - 'a');
    x.close(1);
    due("the same", x.differ(0, 0, 0), NONE);
    due("d by its end", x.differ(0, 1, 0), 'd');
    due("from", x.differ(0, 1, 'd'), 'd');
    due("behind it and 4096", x.differ(0, 1, 'd' + 1), NONE);
    due("just below 4096 more", x.differ(0, 1, 0x2000 - 4095), 0x2000);
    due("4096 more", x.differ(0, 1, 0x2000 - 4096), NONE);
    due("from", x.differ(1, 0, -1), BEYOND);
    due("from", x.differ(1, 0, 0x110000), BEYOND);
    due("at the end", x.differ(1, 0, 0x10FFFF), NONE);
    x.page(HIGH);
    x.page(LOW);
    x.page(HIGH);
    due("HIGH and LOW", x.differ(2, 3, 0), 1);
    due("HIGH and LOW, halves", x.differ(2, 3, 0xD800), 0xE000);
    due("HIGH and HIGH", x.differ(2, 4, 0), NONE);
    due("a table and HIGH", x.differ(0, 2, 0xD900), 0xE000);
    due("the last point", x.differ(0, 2, 0x10FFFF), 0x10FFFF);
  }

  private static void promise26() {
    CountedExchange x = small();
    x.page(FEW);
    x.page(TABLE);
    due("no page", x.misread(0, 3), BEYOND);
    due("no page", x.misread(3, 2), BEYOND);
    due("open", x.misread(0, 2), OPEN);
    due("open", x.misread(2, 0), OPEN);
    due("no bytes", x.misread(0, 1), 0);
    putBytes(x, 1, 0xC3, 0xA9, 3);
    due("1 | a, 0xE9 | 0xDCC3, 3 | 0xDCA9, - | c", x.misread(0, 1), 4);
    due("the same", x.misread(0, 0), 0);
    putBytes(x, 0xFF, 0x80);
    due("both malformed", x.misread(0, 1), 0);
    due("no result", x.told(8), 0);
    due("no place", x.told(0), 0);
  }

  private static void promise27() {
    CountedExchange x = small();
    x.page(TABLE);
    due("no page", x.faults(2), BEYOND);
    due("open", x.faults(1), OPEN);
    due("no bytes", x.faults(0), 0);
    putBytes(x, 1, 9, 2, 9, 9, 3);
    due("three", x.faults(0), 3);
    due("no place", x.told(0), 0);
    x.page(HIGH);
    due("none", x.faults(2), 0);
    putBytes(x, 0xD8, 0, 0);
    due("a half, then 0 0", x.faults(2), 1);
  }

  private static void promise28() {
    CountedExchange x = new CountedExchange();
    x.page(TABLE);
    due("none is closed", x.detect(), NONE);
    x.page(FEW);
    x.page(HIGH);
    x.page(LOW);
    due("no bytes", x.detect(), 1);
    putBytes(x, 0xC3, 0xA9, 'a', 'b');
    due("no faults", x.detect(), 1);
    putBytes(x, 0xFF, 0xA9, 'a', 'b');
    due("HIGH", x.detect(), 2);
    putBytes(x, 0xDC, 0x41);
    due("LOW", x.detect(), 3);
    x.close(0);
    due("the empty table has faults alone", x.detect(), 3);
    x.fill(0);
    due("the lowest", x.detect(), 0);
    CountedExchange y = small();
    repeatBytes(y, 0xFF, 1000);
    due("nothing but faults", y.detect(), 0);
    due("1000", y.faults(0), 1000);
  }

  private static void promise29() {
    CountedExchange x = shifting();
    x.page(TABLE);
    due("no page", x.lengths(2, 9), BEYOND);
    due("open", x.lengths(1, 9), OPEN);
    due("what", x.lengths(0, 2), BEYOND);
    due("what", x.lengths(0, -1), BEYOND);
    x.fill(1);
    due("fewest", x.lengths(0, 0), 0);
    due("most", x.lengths(0, 1), 1);
    putUnits(x, 'd');
    due("from 3: 3 and 1", x.lengths(0, 0), 4);
    due("from 0: 2, 3 and 1", x.lengths(0, 1), 6);
    putUnits(x, 'b', 'q', 'q');
    due("missing", x.lengths(0, 0), MISSING);
    due("place", x.told(0), 1);
    putUnits(x, 'a', 0xDC41);
    due("missing, as under REFUSE", x.lengths(0, 1), MISSING);
    due("place", x.told(0), 1);
    x.page(FEW);
    putUnits(x, 0xD83D, 0xDE00, 'a');
    due("FEW", x.lengths(2, 0), 5);
    due("FEW", x.lengths(2, 1), 5);
    due("no result", x.told(8), 0);
  }

  private static void promise30() {
    CountedExchange x = new CountedExchange();
    due("no page", x.send(0), BEYOND);
    x.page(TABLE);
    x.page(FEW);
    due("no table", x.send(1), KIND);
    due("open", x.send(0), OPEN);
    x.entry(0, 0, 0x4142, 2, 0x10FFFF);
    x.entry(0, 1, 0xFF, 1, -1 - 0x10FFFF);
    x.shift(0, 0, 14, 1, true);
    x.shift(0, 1, 15, 0, true);
    x.shift(0, 1, 16, 3, false);
    due("open", x.send(0), OPEN);
    x.close(0);
    int[] row = {2, 0, 2, 0x41, 0x42, 0x10, 0xFF, 0xFF, 1, 1, 1, 0xFF, 0x10, 0xFF, 0xFF, 0, 3, 0, 14, 1, 1,
        1, 15, 0, 1, 1, 16, 3, 0, 0, 0};
    int sum = 0;
    for (int i = 0; i < row.length - 2; i++) {
      sum += (i + 1) * row[i];
    }
    row[row.length - 2] = sum % 65521 / 256;
    row[row.length - 1] = sum % 65521 % 256;
    due("send", x.send(0), 31);
    dueResult(x, row);
    due("of bytes", x.told(8), 2);
    x.page(TABLE);
    x.close(2);
    due("an empty page", x.send(2), 4);
    dueResult(x, 0, 0, 0, 0);
  }

  private static void promise30Long() {
    CountedExchange x = new CountedExchange();
    x.page(TABLE);
    for (int i = 0; i < 100; i++) {
      x.entry(0, 0, 0xFF0000 + i, 3, 0x10FF00 + i);
    }
    for (int i = 0; i < 10; i++) {
      x.shift(0, i < 5 ? 0 : 1, 200 + i, i < 5 ? 1 : 0, true);
    }
    due("close", x.close(0), 0);
    due("the longest page", x.send(0), 944);
    due("fits the bytes", x.fill(2), 944);
    due("and comes in again", x.receive(), 1);
    due("entries", x.size(1, 2), 100);
    due("shifts", x.size(1, 3), 10);
  }

  /** Bytes with their sum behind them. */
  private static int receive(CountedExchange x, int... row) {
    putBytes(x, row);
    int sum = 0;
    for (int i = 0; i < row.length; i++) {
      sum = (sum + (i + 1) * row[i]) % 65521;
    }
    x.bytesIn(sum, 2);
    return x.receive();
  }

  private static void promise31() {
    CountedExchange x = shifting();
    int n = x.send(0);
    x.fill(2);
    due("receive", x.receive(), 1);
    due("closed", x.size(1, 1), 1);
    due("kind", x.size(1, 0), TABLE);
    due("entries", x.size(1, 2), 4);
    due("shifts", x.size(1, 3), 6);
    due("the same", x.differ(0, 1, 0), NONE);
    due("the bytes stay", x.told(5), n);
    putUnits(x, 'd', 'c', 'b');
    due("writes", x.encode(1, REFUSE), x.encode(0, REFUSE));
    due("derive", x.derive(1), 2);
    putBytes(x, 0, 0, 0);
    due("three bytes", x.receive(), SUM);
    x.fill(0);
    due("no bytes", x.receive(), SUM);
    putBytes(x, 0, 0, 0, 1);
    due("another sum", x.receive(), SUM);
    due("the least page", receive(x, 0, 0), 3);
    promise31Bad();
    promise31Full();
  }

  private static void promise31Bad() {
    CountedExchange x = new CountedExchange();
    due("no count of shifts", receive(x, 1, 0), BAD);
    due("more bytes", receive(x, 0, 0, 0), BAD);
    due("no shifts' count", receive(x, 1, 0, 1, 65, 0, 0, 97, 1), BAD);
    due("state", receive(x, 1, 4, 1, 65, 0, 0, 97, 1, 0), BAD);
    due("n 0", receive(x, 1, 0, 0, 0, 0, 97, 1, 0), BAD);
    due("n 4", receive(x, 1, 0, 4, 1, 2, 3, 4, 0, 0, 97, 1, 0), BAD);
    due("a half", receive(x, 1, 0, 1, 65, 0, 0xD8, 0, 1, 0), BAD);
    due("no point", receive(x, 1, 0, 1, 65, 0x11, 0, 0, 1, 0), BAD);
    due("preferred 2", receive(x, 1, 0, 1, 65, 0, 0, 97, 2, 0), BAD);
    due("preferred 2 beside 1", receive(x, 2, 0, 1, 65, 0, 0, 97, 1, 0, 1, 66, 0, 0, 97, 2, 0), BAD);
    due("not preferred alone", receive(x, 1, 0, 1, 65, 0, 0, 97, 0, 0), BAD);
    due("cut", receive(x, 1, 0, 1, 65, 0, 0), BAD);
    due("two alike", receive(x, 2, 0, 1, 65, 0, 0, 97, 1, 0, 1, 65, 0, 0, 97, 0, 0), BAD);
    due("rule 1", receive(x, 2, 0, 1, 65, 0, 0, 97, 1, 0, 2, 65, 66, 0, 0, 98, 1, 0), BAD);
    due("rule 2", receive(x, 2, 0, 1, 65, 0, 0, 97, 1, 0, 1, 66, 0, 0, 97, 1, 0), BAD);
    due("rule 3", receive(x, 0, 1, 0, 14, 1, 1), BAD);
    due("rule 4", receive(x, 1, 1, 1, 65, 0, 0, 97, 1, 0), BAD);
    due("a shift to its own state", receive(x, 0, 1, 0, 14, 0, 1), BAD);
    due("shift's state", receive(x, 0, 1, 4, 14, 0, 1), BAD);
    due("shift's goal", receive(x, 0, 1, 0, 14, 4, 0), BAD);
    due("sticky 2", receive(x, 0, 1, 0, 14, 1, 2), BAD);
    due("two shifts alike", receive(x, 0, 2, 0, 14, 1, 0, 0, 14, 1, 0), BAD);
    due("a cut shift", receive(x, 0, 2, 0, 14, 1, 0, 0, 14, 1), BAD);
    due("more shifts", receive(x, 0, 0, 0, 14, 1, 0), BAD);
    due("no page came", x.told(4), 0);
    due("told(1) is of close() alone", x.told(1), 0);
    due("the bytes stay", x.told(5), 8);
    due("a good one after all", receive(x, 1, 0, 1, 65, 0, 0, 97, 1, 1, 0, 14, 1, 0), 0);
    due("its entries", x.size(0, 2), 1);
    due("its shifts", x.size(0, 3), 1);
    due("another", receive(x, 1, 0, 1, 66, 0, 0, 98, 1, 0), 1);
    due("the first stays", x.code(0, 97), (1L << 32) + 65);
    int[] shifts = new int[2 + 11 * 4];
    shifts[1] = 11;
    int[] entries = new int[2 + 101 * 7];
    entries[0] = 101;
    for (int i = 0; i < 101; i++) {
      int[] one = {0, 1, i, 0, 0, i, 1};
      System.arraycopy(one, 0, entries, 1 + 7 * i, 7);
    }
    for (int i = 0; i < 11; i++) {
      int[] one = {0, i, 1, 0};
      System.arraycopy(one, 0, shifts, 2 + 4 * i, 4);
    }
    due("11 shifts", receive(x, shifts), BAD);
    due("101 entries", receive(x, entries), BAD);
  }

  private static void promise31Full() {
    CountedExchange x = new CountedExchange();
    for (int p = 0; p < 9; p++) {
      x.page(FEW);
    }
    due("the 10th page", receive(x, 0, 0), 9);
    due("the 11th page", x.receive(), FULL);
    x.fill(0);
    due("FULL ahead of SUM", x.receive(), FULL);
  }

  private static void promise32() {
    CountedExchange x = small();
    due("what", x.told(11), BEYOND);
    due("what", x.told(-1), BEYOND);
    due("findings", x.told(10), 2);
    due("findings", x.told(10), 2);
    due("pages", x.told(4), 1);
    putBytes(x, 1, 2, 3, 4);
    putUnits(x, 'a', 'b', 'q');
    due("bytes", x.told(5), 4);
    due("units", x.told(6), 3);
    x.decode(0, REFUSE);
    due("place", x.told(0), 3);
    x.encode(0, REFUSE);
    due("place", x.told(0), 2);
    due("findings", x.told(10), 4);
    due("result", x.told(7), 0);
    due("result", x.told(8), 0);
    x.decode(0, DROP);
    due("result", x.told(7), 3);
    due("result", x.told(8), 1);
    x.encode(0, DROP);
    due("result", x.told(7), 2);
    due("result", x.told(8), 2);
    x.fill(1);
    x.unitsIn('a', 1);
    x.fallback('z');
    due("fallbacks", x.told(9), 1);
    due("a long finding counts", x.code(0, -1), BEYOND);
    due("findings", x.told(10), 5);
  }

  private static void named(String name) {
    part = name;
  }

  public static void main(String[] args) {
    named("promise 1");
    promise1();
    named("promise 2");
    promise2();
    named("promise 3");
    promise3();
    named("promise 4");
    promise4();
    named("promise 5");
    promise5();
    named("promise 6");
    promise6();
    named("promise 7");
    promise7();
    named("promise 8");
    promise8();
    named("promise 9");
    promise9();
    named("promise 10");
    promise10();
    named("promise 11");
    promise11();
    named("promise 12");
    promise12();
    named("promise 13");
    promise13();
    named("promise 14");
    promise14();
    promise14Rules();
    promise14Ways();
    promise14Fallbacks();
    promise14Full();
    promise14EndFull();
    named("promise 15");
    promise15();
    named("promise 16");
    promise16();
    named("promise 17");
    promise17();
    named("promise 18");
    promise18();
    named("promise 19");
    promise19();
    named("promise 20");
    promise20();
    named("promise 21");
    promise21();
    named("promise 22");
    promise22();
    named("promise 23");
    promise23();
    named("promise 24");
    promise24();
    named("promise 25");
    promise25();
    named("promise 26");
    promise26();
    named("promise 27");
    promise27();
    named("promise 28");
    promise28();
    named("promise 29");
    promise29();
    named("promise 30");
    promise30();
    promise30Long();
    named("promise 31");
    promise31();
    named("promise 32");
    promise32();
    System.out.println(wrong == 0 ? checks + " answers are as due" : wrong + " answers are not as due");
    System.exit(wrong == 0 ? 0 : 1);
  }
}
