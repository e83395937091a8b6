/** The sentences under 'Terms' (1 to 8), each with a test of its own. */
public final class TermsTest {
  private static final int[] POINTS = {0, 1, 0xD7FF, 0xE000, 0xFFFF, 0x10000, 0x10FFFF};
  private static final int[] NO_POINTS = {-1, 0xD800, 0xDBFF, 0xDC00, 0xDFFF, 0x110000, Integer.MIN_VALUE,
      Integer.MAX_VALUE};

  private TermsTest() { }

  // ---- 1: bytes, units, points

  private static void bytesAndUnits() {
    CountedExchange x = Setups.with(Cases.HIGH, Cases.TABLE);
    x.begin(0, 0, false, Cases.KEEP);
    x.begin(1, 0, true, Cases.KEEP);
    for (int odd : Cases.ODD) {
      Cases.due("feed(0, " + odd + ")", x.feed(0, odd), Cases.BEYOND);
      Cases.due("feed(1, " + odd + ")", x.feed(1, odd), Cases.BEYOND);
      Cases.due("shift with " + odd, x.shift(1, 0, odd, 1, true), Cases.BEYOND);
    }
    Cases.due("feed(0, 256)", x.feed(0, 256), Cases.BEYOND);
    Cases.due("feed(1, 65536)", x.feed(1, 65536), Cases.BEYOND);
    Cases.due("shift with 256", x.shift(1, 0, 256, 1, true), Cases.BEYOND);
    Cases.due("byte 0", x.feed(0, 0), 0);
    Cases.due("byte 255", x.feed(0, 255), 1);
    Cases.due("take(0)", x.take(0), 0x00FF);
    Cases.due("unit 0", x.feed(1, 0), 2);
    Cases.due("unit 65535", x.feed(1, 65535), 4);
    Setups.dueTaken(x, 1, 0, 0, 255, 255);
    Cases.due("shift with 0", x.shift(1, 0, 0, 1, true), 0);
    Cases.due("shift with 255", x.shift(1, 0, 255, 1, true), 0);
  }

  /** Under DROP a pair is four bytes by HIGH, a unit that is no half two, a lone half none. */
  private static void halves() {
    int[][] rows = {{0xD7FF, 0xDC00, 2}, {0xD800, 0xDC00, 4}, {0xDBFF, 0xDC00, 4}, {0xDC00, 0xDC00, 0},
        {0xD800, 0xDBFF, 0}, {0xD800, 0xDFFF, 4}, {0xD800, 0xE000, 2}, {0xDBFF, 0xDFFF, 4}, {0xDFFF, 0xDC00, 0},
        {0xE000, 0xDC00, 2}, {0xDC00, 0xD800, 0}, {0xD7FF, 0xE000, 4}};
    CountedExchange x = Setups.with(Cases.HIGH);
    for (int[] row : rows) {
      Setups.putUnits(x, row[0], row[1]);
      Cases.due(Integer.toHexString(row[0]) + " " + Integer.toHexString(row[1]), x.encode(0, Cases.DROP), row[2]);
      x.begin(0, 0, true, Cases.DROP);
      x.feed(0, row[0]);
      x.feed(0, row[1]);
      Cases.due("one by one", x.end(0), row[2]);
    }
  }

  private static void points() {
    CountedExchange x = Setups.with(Cases.FEW, Cases.TABLE);
    for (int point : NO_POINTS) {
      Cases.due("code of " + point, x.code(0, point), Cases.BEYOND);
      Cases.due("sign of " + point, x.sign(0, point), Cases.BEYOND);
      Cases.due("second sign of " + point, x.sign(1, point), Cases.BEYOND);
      Cases.due("fallback of " + point, x.fallback(point), Cases.BEYOND);
      if (point >= 0) {
        Cases.due("entry of " + point, x.entry(1, 0, 1, 1, point), Cases.BEYOND);
        Cases.due("entry of " + point + ", not preferred", x.entry(1, 0, 1, 1, -1 - point), Cases.BEYOND);
      }
    }
    int before = 0xFFFD;
    for (int i = 0; i < POINTS.length; i++) {
      int point = POINTS[i];
      Cases.due("code of " + point, x.code(0, point) > 0 ? 1 : 0, 1);
      Cases.due("sign of " + point, x.sign(0, point), before);
      Cases.due("fallback of " + point, x.fallback(point), 0);
      Cases.due("entry of " + point, x.entry(1, 0, i, 1, point), 0);
      Cases.due("entry of " + point + ", not preferred", x.entry(1, 0, 100 + i, 1, -1 - point), 0);
      before = point;
    }
    Cases.due("close(1)", x.close(1), 0);
  }

  private static void unitsOfAPoint() {
    int[][] rows = {{0, 0}, {0xD7FF, 0xD7FF}, {0xE000, 0xE000}, {0xFFFF, 0xFFFF}, {0x10000, 0xD800, 0xDC00},
        {0x103FF, 0xD800, 0xDFFF}, {0x10400, 0xD801, 0xDC00}, {0x10FC00, 0xDBFF, 0xDC00}, {0x10FFFF, 0xDBFF, 0xDFFF}};
    CountedExchange x = Setups.with(Cases.TABLE, Cases.FEW);
    x.close(0);
    for (int[] row : rows) {
      x.sign(0, row[0]);
      Setups.putBytes(x, 1);
      Cases.due("the sign's units", x.decode(0, Cases.SIGN), row.length - 1);
      Setups.dueResult(x, java.util.Arrays.copyOfRange(row, 1, row.length));
      x.fill(3);
      Cases.due("and back", x.encode(1, Cases.REFUSE), (int) (x.code(1, row[0]) >> 32));
    }
  }

  private static void readFromTheLeft() {
    CountedExchange x = Setups.with(Cases.FEW);
    int[][] rows = {{}, {0xD800}, {0xDC00}, {0xD800, 0xD800, 0xDC00}, {0xDC00, 0xD800, 0xDC00, 0xDC00},
        {0xD800, 0x41, 0xDC00}, {0xD800, 0xDC00, 0xD801}, {0xD800, 0xDC00, 0xD800, 0xDC00}, {0x41, 0xDC41}};
    int[][] want = {{}, {63}, {63}, {63, 0xF0, 0x90, 0x80, 0x80}, {63, 0xF0, 0x90, 0x80, 0x80, 63}, {63, 0x41, 63},
        {0xF0, 0x90, 0x80, 0x80, 63}, {0xF0, 0x90, 0x80, 0x80, 0xF0, 0x90, 0x80, 0x80}, {0x41, 63}};
    for (int i = 0; i < rows.length; i++) {
      Setups.putUnits(x, rows[i]);
      Cases.due("row " + i, x.encode(0, Cases.SIGN), want[i].length);
      Setups.dueResult(x, want[i]);
    }
    Setups.putUnits(x, 0x41, 0xD800, 0xDC00);
    Setups.putUnits(x, 0x41, 0xD800);
    Cases.due("the low half behind the end is gone", x.encode(0, Cases.REFUSE), Cases.MISSING);
    Cases.due("its place", x.told(0), 1);
  }

  // ---- 2: pages

  private static void atMostTenPages() {
    CountedExchange x = new CountedExchange();
    for (int p = 0; p < 8; p++) {
      Cases.due("page", x.page(p % 4), p);
      Cases.due("kind", x.size(p, 0), p % 4);
    }
    Cases.due("HIGH", x.code(1, 0x20AC), Setups.text(2, 0x20AC));
    Cases.due("LOW", x.code(2, 0x20AC), Setups.text(2, 0xAC20));
    Cases.due("FEW", x.code(3, 0x20AC), Setups.text(3, 0xE282AC));
    x.close(0);
    Cases.due("derive", x.derive(0), 8);
    Cases.due("receive", Setups.receive(x, 0, 0), 9);
    Cases.due("11th by page", x.page(Cases.TABLE), Cases.FULL);
    Cases.due("11th by derive", x.derive(0), Cases.FULL);
    Cases.due("11th by receive", x.receive(), Cases.FULL);
    Cases.due("told(4)", x.told(4), 10);
    Cases.due("page 9", x.size(9, 0), Cases.TABLE);
    Cases.due("page 10", x.size(10, 0), Cases.BEYOND);
    CountedExchange y = Setups.with(0, 0, 0, 0, 0, 0, 0, 0, 0, Cases.FEW);
    Setups.putBytes(y, 0xC3, 0xA9);
    Cases.due("page 9 reads", y.decode(9, Cases.REFUSE), 1);
    Cases.due("to the units", y.fill(3), 1);
    Cases.due("page 9 writes", y.encode(9, Cases.REFUSE), 2);
    Cases.due("by a machine, too", y.begin(3, 9, true, Cases.REFUSE), 0);
    Cases.due("by a machine, too", y.feed(3, 0xE9), 2);
  }

  private static void openAtFirst() {
    CountedExchange x = Setups.with(Cases.TABLE, Cases.HIGH, Cases.LOW, Cases.FEW);
    for (int p = 0; p < 4; p++) {
      Cases.due("closed", x.size(p, 1), p == 0 ? 0 : 1);
      Cases.due("faults", x.faults(p), p == 0 ? Cases.OPEN : 0);
    }
    Cases.due("close", x.close(0), 0);
    Cases.due("closed", x.size(0, 1), 1);
    Cases.due("faults", x.faults(0), 0);
  }

  private static void boundsOfATable() {
    CountedExchange x = Setups.with(Cases.TABLE, Cases.TABLE);
    for (int i = 0; i < 100; i++) {
      int n = 1 + i % 3;
      Cases.due("entry " + i, x.entry(0, i % 4, i << (8 * (n - 1)), n, i % 2 == 0 ? i : -1 - i), 0);
    }
    Cases.due("the 101st", x.entry(0, 0, 200, 1, 200), Cases.FULL);
    for (int i = 0; i < 10; i++) {
      Cases.due("shift " + i, x.shift(0, i % 4, 200 + i, (i + 1) % 4, i % 2 == 0), 0);
    }
    Cases.due("the 11th", x.shift(0, 0, 220, 1, true), Cases.FULL);
    Cases.due("entries", x.size(0, 2), 100);
    Cases.due("shifts", x.size(0, 3), 10);
    Cases.due("another page's entry", x.entry(1, 0, 200, 1, 200), 0);
    Cases.due("another page's shift", x.shift(1, 0, 220, 1, true), 0);
    Cases.due("state 3", x.entry(1, 3, 0, 3, 1), 0);
    Cases.due("state 4", x.entry(1, 4, 0, 3, 1), Cases.BEYOND);
    Cases.due("no byte", x.entry(1, 3, 0, 0, 1), Cases.BEYOND);
    Cases.due("four bytes", x.entry(1, 3, 0, 4, 1), Cases.BEYOND);
    Cases.due("goal 3", x.shift(1, 2, 0, 3, false), 0);
    Cases.due("goal 4", x.shift(1, 2, 1, 4, false), Cases.BEYOND);
    Cases.due("its own state", x.shift(1, 2, 1, 2, false), Cases.BEYOND);
  }

  private static void noGaps() {
    CountedExchange x = Setups.with(Cases.TABLE);
    x.entry(0, 0, 1, 1, 'a');
    x.entry(0, 0, 2, 1, 'b');
    x.entry(0, 0, 3, 1, 'c');
    x.shift(0, 0, 11, 1, false);
    x.shift(0, 0, 12, 1, false);
    x.shift(0, 0, 13, 1, false);
    Cases.due("drop", x.drop(0, 0, 1, 1), 0);
    Cases.due("drop", x.drop(0, 0, 11, 1), 1);
    x.entry(0, 0, 0x0304, 2, 'd');
    Setups.dueBad(x, 0, 1, 1, 2);
    x.drop(0, 0, 0x0304, 2);
    x.entry(0, 0, 13, 1, 'd');
    Setups.dueBad(x, 0, 1, 2, 101);
    x.drop(0, 0, 13, 1);
    x.entry(0, 0, 1, 1, 'a');
    x.shift(0, 0, 11, 1, false);
    Cases.due("close", x.close(0), 0);
    Cases.due("send", x.send(0), 1 + 3 * 7 + 1 + 3 * 4 + 2);
    int[] row = {3, 0, 1, 2, 0, 0, 'b', 1, 0, 1, 3, 0, 0, 'c', 1, 0, 1, 1, 0, 0, 'a', 1, 3, 0, 12, 1, 0, 0, 13, 1, 0,
        0, 11, 1, 0};
    for (int i = 0; i < row.length; i++) {
      Cases.due("result(" + i + ")", x.result(i), row[i]);
    }
  }

  private static void reached() {
    CountedExchange x = Setups.with(Cases.TABLE, Cases.TABLE, Cases.TABLE);
    x.shift(0, 2, 1, 3, true);
    x.shift(0, 1, 1, 2, true);
    x.shift(0, 0, 1, 1, true);
    x.shift(0, 3, 1, 0, true);
    x.entry(0, 3, 9, 1, 'a');
    Cases.due("by three sticky shifts", x.close(0), 0);
    Setups.putUnits(x, 'a');
    Cases.due("from 3", x.lengths(0, 0), 2);
    Cases.due("from 0", x.lengths(0, 1), 5);
    x.shift(1, 0, 1, 1, false);
    x.shift(1, 1, 1, 2, true);
    x.shift(1, 2, 1, 0, true);
    x.entry(1, 2, 9, 1, 'a');
    Setups.dueBad(x, 1, 4, 0, 0);
    x.shift(2, 1, 1, 0, true);
    x.entry(2, 1, 9, 1, 'a');
    Setups.dueBad(x, 2, 4, 0, 0);
    x.drop(2, 1, 9, 1);
    Cases.due("close", x.close(2), 0);
    x.fill(1);
    Cases.due("state 1 is not reached, only 0 is", x.lengths(2, 1), 0);
  }

  private static void highAndLow() {
    CountedExchange x = Setups.with(Cases.HIGH, Cases.LOW);
    long[][] rows = {{0, 2, 0, 0}, {1, 2, 1, 0x0100}, {0xFF, 2, 0xFF, 0xFF00}, {0x100, 2, 0x100, 1},
        {0xD7FF, 2, 0xD7FF, 0xFFD7}, {0xE000, 2, 0xE000, 0x00E0}, {0xFFFF, 2, 0xFFFF, 0xFFFF},
        {0x10000, 4, 0xD800DC00L, 0x00D800DCL}, {0x103FF, 4, 0xD800DFFFL, 0x00D8FFDFL},
        {0x10400, 4, 0xD801DC00L, 0x01D800DCL}, {0x10FBFF, 4, 0xDBFEDFFFL, 0xFEDBFFDFL},
        {0x10FC00, 4, 0xDBFFDC00L, 0xFFDB00DCL}, {0x10FFFF, 4, 0xDBFFDFFFL, 0xFFDBFFDFL}};
    for (long[] row : rows) {
      Cases.due("HIGH " + row[0], x.code(0, (int) row[0]), Setups.text((int) row[1], row[2]));
      Cases.due("LOW " + row[0], x.code(1, (int) row[0]), Setups.text((int) row[1], row[3]));
    }
    Setups.putUnits(x, 0xDBFF, 0xDFFF);
    x.encode(0, Cases.REFUSE);
    Setups.dueResult(x, 0xDB, 0xFF, 0xDF, 0xFF);
    x.encode(1, Cases.REFUSE);
    Setups.dueResult(x, 0xFF, 0xDB, 0xFF, 0xDF);
    Cases.due("each point", x.coverage(0, 0x100000, 0x10FFFF), 65536);
    Cases.due("each point", x.coverage(1, 0, 65535), 63488);
  }

  private static void few() {
    CountedExchange x = Setups.with(Cases.FEW);
    long[][] rows = {{0, 1, 0}, {0x7F, 1, 0x7F}, {0x80, 2, 0xC280}, {0x7FF, 2, 0xDFBF}, {0x800, 3, 0xE0A080},
        {0xFFF, 3, 0xE0BFBF}, {0x1000, 3, 0xE18080}, {0xD7FF, 3, 0xED9FBF}, {0xE000, 3, 0xEE8080},
        {0xFFFF, 3, 0xEFBFBF}, {0x10000, 4, 0xF0908080L}, {0x3FFFF, 4, 0xF0BFBFBFL}, {0x40000, 4, 0xF1808080L},
        {0x10FFFF, 4, 0xF48FBFBFL}};
    for (long[] row : rows) {
      int point = (int) row[0];
      Cases.due("FEW " + point, x.code(0, point), Setups.text((int) row[1], row[2]));
      x.fill(0);
      x.bytesIn(row[2], (int) row[1]);
      Cases.due("read", x.decode(0, Cases.REFUSE), point < 0x10000 ? 1 : 2);
      Cases.due("its unit", x.result(0), point < 0x10000 ? point : 0xD800 + (point - 0x10000) / 1024);
    }
    long[][] none = {{0x80, 1}, {0xBF, 1}, {0xC080, 2}, {0xC1BF, 2}, {0xC27F, 2}, {0xC2C0, 2}, {0xE09FBF, 3},
        {0xEDA080, 3}, {0xEDBFBF, 3}, {0xF08FBFBFL, 4}, {0xF4908080L, 4}, {0xF5808080L, 4}, {0xF8888080L, 4},
        {0xFF, 1}, {0xE28241, 3}, {0xF0904180L, 4}};
    for (long[] row : none) {
      x.fill(0);
      x.bytesIn(row[0], (int) row[1]);
      Cases.due("no text " + Long.toHexString(row[0]), x.decode(0, Cases.REFUSE), Cases.MALFORMED);
      Cases.due("at its first byte", x.told(0), 0);
    }
  }

  private static void allInStateZero() {
    CountedExchange x = Setups.with(Cases.HIGH, Cases.LOW, Cases.FEW);
    Setups.putUnits(x, 'a', 0xDBFF, 0xDFFF, 0xE9);
    int[] want = {8, 8, 7};
    for (int p = 0; p < 3; p++) {
      Cases.due("shifts", x.size(p, 3), 0);
      Cases.due("fewest", x.lengths(p, 0), want[p]);
      Cases.due("most", x.lengths(p, 1), want[p]);
      x.begin(0, p, true, Cases.REFUSE);
      x.feed(0, 0xE9);
      Setups.dueMachine(x, 0, 2, 0, 4, 0, 0);
      Cases.due("no end", x.end(0), 2);
    }
  }

  // ---- 3: a table is good

  private static void beginsWithNone() {
    int[][] bad = {{1, 1, 0x0102, 2}, {1, 1, 0x010203, 3}, {0x0102, 2, 0x010203, 3}, {0x0102, 2, 1, 1},
        {0x010203, 3, 1, 1}, {0x010203, 3, 0x0102, 2}, {0, 1, 0x0041, 2}, {0, 1, 0, 2}, {0, 2, 0, 3},
        {0xFF, 1, 0xFF0000, 3}, {0xFFFF, 2, 0xFFFF00, 3}};
    int[][] good = {{2, 1, 0x0102, 2}, {0x0102, 2, 0x0103, 2}, {3, 1, 0x010203, 3}, {0x0203, 2, 0x010203, 3},
        {0x41, 1, 0x0041, 2}, {0x010203, 3, 0x0103, 2}, {0xFF, 1, 0xFE, 1}, {0xFF, 1, 0x7F00, 2}};
    CountedExchange x = Setups.with(Cases.TABLE);
    for (int[] row : bad) {
      x.entry(0, 2, row[0], row[1], -1 - 'a');
      x.entry(0, 2, row[2], row[3], -1 - 'a');
      Setups.dueBad(x, 0, 1, 0, 1);
      x.drop(0, 2, row[0], row[1]);
      x.entry(0, 1, row[0], row[1], -1 - 'a');
      Setups.dueBad(x, 0, 2, 'a', 0);
      x.drop(0, 1, row[0], row[1]);
      x.drop(0, 2, row[2], row[3]);
    }
    for (int[] row : good) {
      x.entry(0, 0, row[0], row[1], -1 - 'a');
      x.entry(0, 0, row[2], row[3], -1 - 'a');
      Setups.dueBad(x, 0, 2, 'a', 0);
      x.drop(0, 0, row[0], row[1]);
      x.drop(0, 0, row[2], row[3]);
    }
    Cases.due("empty", x.close(0), 0);
  }

  private static void beginsWithNoShift() {
    CountedExchange x = Setups.with(Cases.TABLE);
    x.shift(0, 0, 14, 1, false);
    for (int n = 1; n <= 3; n++) {
      x.entry(0, 0, 14 << (8 * (n - 1)), n, 'a');
      Setups.dueBad(x, 0, 1, 0, 100);
      x.drop(0, 0, 14 << (8 * (n - 1)), n);
    }
    x.entry(0, 0, 0x0F0E, 2, 'a');
    x.entry(0, 1, 14, 1, 'b');
    Cases.due("a shift's byte behind the first, or of another state", x.close(0), 0);
  }

  private static void justOnePreferred() {
    CountedExchange x = Setups.with(Cases.TABLE);
    x.entry(0, 0, 1, 1, -1 - 'b');
    Setups.dueBad(x, 0, 2, 'b', 0);
    x.entry(0, 0, 2, 1, -1 - 'b');
    Setups.dueBad(x, 0, 2, 'b', 0);
    x.entry(0, 0, 3, 1, 'b');
    x.entry(0, 1, 4, 1, 'b');
    Setups.dueBad(x, 0, 2, 'b', 0);
    x.entry(0, 1, 4, 1, -1 - 'b');
    Cases.due("one of four", x.close(0), 0);
    Cases.due("that one", x.code(0, 'b'), Setups.text(1, 3));
    CountedExchange y = Setups.with(Cases.TABLE);
    y.entry(0, 0, 1, 1, 0);
    y.entry(0, 0, 2, 1, 0x10FFFF);
    y.entry(0, 0, 3, 1, 0x10FFFF);
    Setups.dueBad(y, 0, 2, 0x10FFFF, 0);
    y.entry(0, 0, 1, 1, -1);
    Setups.dueBad(y, 0, 2, 0, 0);
  }

  private static void leadToZero() {
    CountedExchange x = Setups.with(Cases.TABLE, Cases.TABLE);
    x.shift(0, 0, 1, 1, true);
    Setups.dueBad(x, 0, 3, 1, 0);
    x.shift(0, 1, 1, 0, false);
    Setups.dueBad(x, 0, 3, 1, 0);
    x.shift(0, 1, 2, 2, true);
    Setups.dueBad(x, 0, 3, 1, 0);
    x.shift(0, 2, 1, 3, true);
    Setups.dueBad(x, 0, 3, 1, 0);
    x.shift(0, 3, 1, 1, true);
    Setups.dueBad(x, 0, 3, 1, 0);
    x.shift(0, 3, 2, 0, true);
    Cases.due("by three sticky shifts", x.close(0), 0);
    x.shift(1, 2, 1, 3, true);
    x.shift(1, 0, 1, 1, false);
    Cases.due("states that are not reached need no way", x.close(1), 0);
  }

  private static void preferredAreWritten() {
    CountedExchange x = Setups.with(Cases.TABLE, Cases.TABLE, Cases.TABLE);
    x.entry(0, 0, 1, 1, 'a');
    x.entry(0, 3, 1, 1, -1 - 'a');
    Cases.due("one that is not preferred may stand anywhere", x.close(0), 0);
    x.entry(1, 1, 1, 1, 'a');
    Setups.dueBad(x, 1, 4, 0, 0);
    x.shift(1, 2, 1, 1, true);
    x.shift(1, 3, 1, 1, false);
    Setups.dueBad(x, 1, 4, 0, 0);
    x.shift(1, 0, 1, 1, false);
    Cases.due("by a single shift of state 0", x.close(1), 0);
    x.entry(2, 3, 1, 1, 'a');
    x.shift(2, 0, 1, 1, false);
    x.shift(2, 1, 1, 3, false);
    Setups.dueBad(x, 2, 4, 0, 0);
    x.shift(2, 0, 2, 1, true);
    x.shift(2, 1, 2, 0, true);
    Cases.due("by a single shift of a reached state", x.close(2), 0);
  }

  // ---- 4: reading

  private static void whatIsDue() {
    CountedExchange x = Setups.shifting();
    Setups.putBytes(x, 0x43, 0x44, 0x45);
    Cases.due("state 0 at first, not 3", x.faults(0), 3);
    Setups.putBytes(x, 65);
    x.decode(0, Cases.REFUSE);
    Setups.dueResult(x, 'a');
    Setups.putBytes(x, 15);
    Cases.due("a shift of state 1", x.faults(0), 1);
    Setups.putBytes(x, 27, 14);
    Cases.due("no shift while a state is pending", x.faults(0), 1);
    Setups.putBytes(x, 27, 65);
    Cases.due("no entry of the state while another is pending", x.faults(0), 1);
    CountedExchange y = Setups.with(Cases.TABLE);
    y.shift(0, 0, 1, 2, false);
    y.shift(0, 2, 9, 1, true);
    y.entry(0, 2, 5, 1, 'c');
    y.close(0);
    Setups.putBytes(y, 1, 9, 5);
    Cases.due("no shift of the pending state", y.decode(0, Cases.KEEP), 2);
    Setups.dueResult(y, 0xDC09, 0xDC05);
  }

  /** Each state has entries that begin with the bytes 0 and 255, and shifts of 1 and 254 to the next one. */
  private static void edgesOfEachState() {
    CountedExchange x = Setups.with(Cases.TABLE);
    for (int state = 0; state < 4; state++) {
      x.entry(0, state, 0, 1, 'a' + state);
      x.entry(0, state, 0xFFFFFF, 3, 'e' + state);
      x.shift(0, state, 1, (state + 1) % 4, true);
      x.shift(0, state, 254, (state + 1) % 4, false);
    }
    Cases.due("close", x.close(0), 0);
    int[] round = {0, 255, 255, 255, 254, 0, 254, 255, 255, 255, 1};
    Setups.putBytes(x, Setups.joined(round, round, round, round));
    Cases.due("decode", x.decode(0, Cases.REFUSE), 16);
    Setups.dueResult(x, 'a', 'e', 'b', 'f', 'b', 'f', 'c', 'g', 'c', 'g', 'd', 'h', 'd', 'h', 'a', 'e');
  }

  private static void anEntry() {
    CountedExchange x = Setups.shifting();
    Setups.putBytes(x, 27, 0x41, 0x42, 65, 27, 0x41, 0x42);
    Cases.due("decode", x.decode(0, Cases.REFUSE), 3);
    Setups.dueResult(x, 'c', 'a', 'c');
    x.begin(0, 0, false, Cases.REFUSE);
    x.feed(0, 27);
    Cases.due("pending", x.machine(0, 2), 2);
    x.feed(0, 0x41);
    x.feed(0, 0x42);
    Cases.due("nothing is pending then", x.machine(0, 2), 4);
  }

  private static void aStickyShift() {
    CountedExchange x = Setups.shifting();
    Setups.putBytes(x, 14, 65, 65, 16, 0x43, 0x44, 0x45, 17, 65);
    Cases.due("decode", x.decode(0, Cases.REFUSE), 4);
    Setups.dueResult(x, 'b', 'b', 'd', 'a');
    Setups.putBytes(x, 14, 15, 14, 15, 14, 16, 17);
    Cases.due("shifts alone", x.decode(0, Cases.REFUSE), 0);
  }

  private static void aSingleShift() {
    CountedExchange x = Setups.shifting();
    Setups.putBytes(x, 14, 28, 0x41, 0x42, 65);
    Cases.due("the state stays", x.decode(0, Cases.REFUSE), 2);
    Setups.dueResult(x, 'c', 'b');
    Setups.putBytes(x, 27, 27, 65, 0x42);
    Cases.due("a second one is malformed, 65 is a", x.decode(0, Cases.KEEP), 3);
    Setups.dueResult(x, 0xDC1B, 'a', 0xDC42);
    Setups.putBytes(x, 65, 27);
    Cases.due("at the end nothing comes of it", x.decode(0, Cases.REFUSE), 1);
    Cases.due("it is no fault", x.faults(0), 0);
  }

  private static void goesOnBehind() {
    CountedExchange x = Setups.with(Cases.TABLE);
    x.entry(0, 0, 0x010102, 3, 'a');
    x.entry(0, 0, 0x0103, 2, 'b');
    x.entry(0, 0, 2, 1, 'c');
    x.close(0);
    Setups.putBytes(x, 1, 1, 2, 1, 3, 2, 2, 1, 1, 2);
    Cases.due("texts of three, two and one bytes", x.decode(0, Cases.REFUSE), 5);
    Setups.dueResult(x, 'a', 'b', 'c', 'c', 'a');
    Setups.putBytes(x, 1, 1, 3);
    Cases.due("behind the byte alone", x.decode(0, Cases.KEEP), 2);
    Setups.dueResult(x, 0xDC01, 'b');
  }

  private static void noneStandsWhole() {
    CountedExchange x = Setups.shifting();
    Setups.putBytes(x, 65, 27, 0x41);
    Cases.due("the bytes end within one", x.decode(0, Cases.REFUSE), Cases.MALFORMED);
    Cases.due("its place", x.told(0), 2);
    Setups.putBytes(x, 14, 16, 0x43, 0x44);
    Cases.due("the bytes end within one of three", x.decode(0, Cases.KEEP), 2);
    Setups.dueResult(x, 0xDC43, 0xDC44);
    Setups.putBytes(x, 27, 0x41, 65, 14);
    Cases.due("nothing is pending then", x.decode(0, Cases.KEEP), 2);
    Setups.dueResult(x, 0xDC41, 'a');
    Setups.putBytes(x, 14, 28, 99, 65, 15, 65);
    Cases.due("the state stays", x.decode(0, Cases.KEEP), 3);
    Setups.dueResult(x, 0xDC63, 'b', 'a');
    x.page(Cases.HIGH);
    x.page(Cases.LOW);
    x.page(Cases.FEW);
    Setups.putBytes(x, 0, 0x41, 0xD8, 0x00, 0xDC);
    Cases.due("HIGH: within a pair", x.decode(1, Cases.KEEP), 3);
    Setups.dueResult(x, 0x41, 0xDCD8, 0x00DC);
    Setups.putBytes(x, 0, 0xD8, 0, 0xDB, 0, 0xDC);
    Cases.due("LOW: a high half ahead of a pair", x.decode(2, Cases.KEEP), 4);
    Setups.dueResult(x, 0xDC00, 0x00D8, 0x00DB, 0xDCDC);
    Setups.putBytes(x, 0xE2, 0x82);
    Cases.due("FEW: within a text", x.decode(3, Cases.KEEP), 2);
    Setups.dueResult(x, 0xDCE2, 0xDC82);
  }

  /** What stood behind the end in an earlier, longer row is no more. */
  private static void nothingBehindTheEnd() {
    CountedExchange x = Setups.shifting();
    int[][] rows = {{65, 27, 0x41, 0x42}, {0, 0x41, 0xD8, 0, 0xDC, 0}, {0x41, 0, 0, 0xD8, 0, 0xDC},
        {0x41, 0x41, 0xF0, 0x9F, 0x98, 0x80}};
    for (int p = 0; p < 4; p++) {
      if (p > 0) {
        x.page(p);
      }
      Setups.putBytes(x, rows[p]);
      Cases.due("whole, page " + p, x.faults(p), 0);
      for (int n = rows[p].length - 1; n > 2; n--) {
        Setups.putBytes(x, java.util.Arrays.copyOf(rows[p], n));
        Cases.due("cut to " + n + ", page " + p, x.decode(p, Cases.REFUSE), Cases.MALFORMED);
        Cases.due("its place", x.told(0), 2);
      }
    }
  }

  private static void rulesOfReading() {
    CountedExchange x = Setups.small();
    Setups.putBytes(x, 0, 1, 255);
    Cases.due("REFUSE", x.decode(0, Cases.REFUSE), Cases.MALFORMED);
    Cases.due("SIGN", x.decode(0, Cases.SIGN), 3);
    Setups.dueResult(x, 0xFFFD, 'a', 0xFFFD);
    x.sign(0, 0x10000);
    Cases.due("a sign of two units", x.decode(0, Cases.SIGN), 5);
    Setups.dueResult(x, 0xD800, 0xDC00, 'a', 0xD800, 0xDC00);
    Cases.due("DROP", x.decode(0, Cases.DROP), 1);
    Setups.dueResult(x, 'a');
    Cases.due("KEEP: bytes 0 and 255", x.decode(0, Cases.KEEP), 3);
    Setups.dueResult(x, 0xDC00, 'a', 0xDCFF);
    Cases.due("no rule 4", x.decode(0, 4), Cases.BEYOND);
  }

  // ---- 5: writing

  private static void shiftsThatLead() {
    CountedExchange x = Setups.shifting();
    Setups.putUnits(x, 'a', 'b', 'b', 'c', 'd', 'c', 'a');
    Cases.due("encode", x.encode(0, Cases.REFUSE), 16);
    Setups.dueResult(x, 65, 14, 65, 65, 28, 0x41, 0x42, 16, 0x43, 0x44, 0x45, 17, 27, 0x41, 0x42, 65);
  }

  /** Ways from 0 to 3: by 1 or by 2, each of two shifts; from 0 to 2 one sticky and one single. */
  private static void waysOfShifts() {
    CountedExchange x = Setups.with(Cases.TABLE);
    x.shift(0, 0, 200, 1, true);
    x.shift(0, 0, 100, 2, true);
    x.shift(0, 0, 101, 2, false);
    x.shift(0, 1, 1, 3, true);
    x.shift(0, 2, 2, 3, false);
    x.shift(0, 2, 250, 3, true);
    x.shift(0, 3, 50, 1, true);
    x.shift(0, 1, 60, 0, true);
    x.shift(0, 1, 40, 0, true);
    x.shift(0, 2, 61, 0, true);
    x.entry(0, 3, 9, 1, 'a');
    x.entry(0, 1, 9, 1, 'b');
    x.entry(0, 2, 9, 1, 'c');
    Cases.due("close", x.close(0), 0);
    Setups.putUnits(x, 'a');
    Cases.due("the first byte that differs tells", x.encode(0, Cases.REFUSE), 4);
    Setups.dueResult(x, 100, 2, 9, 61);
    Setups.putUnits(x, 'c');
    Cases.due("sticky 100 ahead of single 101", x.encode(0, Cases.REFUSE), 3);
    Setups.dueResult(x, 100, 9, 61);
    Setups.putUnits(x, 'b', 'a', 'a', 'b');
    Cases.due("by a sticky one, then none", x.encode(0, Cases.REFUSE), 8);
    Setups.dueResult(x, 200, 9, 1, 9, 9, 50, 9, 40);
    CountedExchange y = Setups.with(Cases.TABLE);
    for (int b : new int[] {4, 9, 5, 3, 8}) {
      y.shift(0, 0, b, 1, true);
      y.shift(0, 1, 10 + b, 0, true);
    }
    y.entry(0, 1, 99, 1, 'a');
    y.close(0);
    Setups.putUnits(y, 'a');
    y.encode(0, Cases.REFUSE);
    Setups.dueResult(y, 3, 99, 13);
    y.derive(0);
    y.drop(1, 0, 3, 1);
    y.drop(1, 1, 13, 1);
    y.close(1);
    y.encode(1, Cases.REFUSE);
    Setups.dueResult(y, 4, 99, 14);
  }

  private static void fewRatherThanLeast() {
    CountedExchange x = Setups.with(Cases.TABLE);
    x.shift(0, 0, 1, 1, true);
    x.shift(0, 1, 1, 2, true);
    x.shift(0, 2, 1, 3, true);
    x.shift(0, 0, 255, 3, false);
    x.shift(0, 3, 7, 0, true);
    x.entry(0, 3, 9, 1, 'a');
    x.entry(0, 2, 9, 1, 'b');
    x.entry(0, 1, 9, 1, 'c');
    x.close(0);
    Setups.putUnits(x, 'a', 'b', 'a', 'c');
    Cases.due("encode", x.encode(0, Cases.REFUSE), 13);
    Setups.dueResult(x, 255, 9, 1, 1, 9, 1, 9, 7, 1, 9, 1, 1, 7);
  }

  private static void whatTheStickyOnesLedTo() {
    CountedExchange x = Setups.shifting();
    x.begin(0, 0, true, Cases.REFUSE);
    int[] units = {'a', 'c', 'b', 'c', 'd', 'c', 'a'};
    int[] states = {0, 0, 1, 1, 3, 0, 0};
    for (int i = 0; i < units.length; i++) {
      x.feed(0, units[i]);
      Cases.due("state behind unit " + i, x.machine(0, 1), states[i]);
    }
  }

  private static void missing() {
    CountedExchange x = Setups.shifting();
    int[][] rows = {{'a', 'q'}, {'a', 0xD800}, {'a', 0xDC00}, {'a', 0xDBFF, 'a'}, {'a', 0xDFFF}, {'a', 0xD800, 0xDC00},
        {'a', 0}, {'a', 0xFFFF}};
    for (int[] row : rows) {
      Setups.putUnits(x, row);
      Cases.due("missing", x.encode(0, Cases.REFUSE), Cases.MISSING);
      Cases.due("place", x.told(0), 1);
    }
    x.page(Cases.FEW);
    Setups.putUnits(x, 0xD800, 0xDC00, 0, 0xFFFF);
    Cases.due("FEW has each point", x.encode(1, Cases.REFUSE), 8);
    Setups.putUnits(x, 0xDC00);
    Cases.due("but no lone half", x.encode(1, Cases.REFUSE), Cases.MISSING);
  }

  private static void signOfWriting() {
    CountedExchange x = Setups.shifting();
    Setups.putUnits(x, 'q', 'b', 0xDC41, 0xD800, 'b');
    Cases.due("63 has no entry", x.encode(0, Cases.SIGN), 4);
    Setups.dueResult(x, 14, 65, 65, 15);
    x.sign(1, 'd');
    Cases.due("d by its entry", x.encode(0, Cases.SIGN), 19);
    Setups.dueResult(x, 14, 16, 0x43, 0x44, 0x45, 17, 14, 65, 16, 0x43, 0x44, 0x45, 0x43, 0x44, 0x45, 17, 14, 65, 15);
  }

  private static void dropOfWriting() {
    CountedExchange x = Setups.shifting();
    Setups.putUnits(x, 'q', 0xD800, 0xDC00, 0xDC00);
    Cases.due("nothing", x.encode(0, Cases.DROP), 0);
    Setups.putUnits(x, 'b', 'q', 'b');
    Cases.due("the state stays", x.encode(0, Cases.DROP), 4);
    Setups.dueResult(x, 14, 65, 65, 15);
  }

  private static void keepOfWriting() {
    CountedExchange x = Setups.shifting();
    Setups.putUnits(x, 'b', 0xDC00, 0xDCFF, 'b');
    Cases.due("0xDC00 and 0xDCFF", x.encode(0, Cases.KEEP), 6);
    Setups.dueResult(x, 14, 65, 0, 255, 65, 15);
    int[] refused = {0xDD00, 0xDFFF, 0xDBFF, 0xD800, 'q'};
    for (int unit : refused) {
      Setups.putUnits(x, 0xDC00, unit);
      Cases.due("refused " + Integer.toHexString(unit), x.encode(0, Cases.KEEP), Cases.MISSING);
      Cases.due("place", x.told(0), 1);
    }
    Setups.putUnits(x, 0xD800, 0xDC00);
    Cases.due("one of a pair is not lone", x.encode(0, Cases.KEEP), Cases.MISSING);
    Cases.due("place", x.told(0), 0);
    Setups.putUnits(x, 0xDC0E, 'b');
    Cases.due("a kept shift byte is no shift", x.encode(0, Cases.KEEP), 4);
    Setups.dueResult(x, 14, 14, 65, 15);
  }

  private static void fallbackOfWriting() {
    CountedExchange x = Setups.shifting();
    Setups.giveFallback(x, 'x', 'b', 'c');
    Setups.giveFallback(x, 'y', 'x', 'a', 'x');
    Setups.giveFallback(x, 'a', 'q');
    Setups.giveFallback(x, 0x10FFFF, 'a');
    Setups.putUnits(x, 'y', 0xDBFF, 0xDFFF);
    Cases.due("one by one", x.encode(0, Cases.FALLBACK), 14);
    Setups.dueResult(x, 14, 65, 28, 0x41, 0x42, 15, 65, 14, 65, 28, 0x41, 0x42, 15, 65);
    Setups.putUnits(x, 'a', 'q');
    Cases.due("without one", x.encode(0, Cases.FALLBACK), Cases.MISSING);
    Cases.due("place", x.told(0), 1);
    for (int half : new int[] {0xD800, 0xDC00, 0xDC41, 0xDFFF}) {
      Setups.putUnits(x, 'a', half);
      Cases.due("a lone half", x.encode(0, Cases.FALLBACK), Cases.MISSING);
      Cases.due("place", x.told(0), 1);
    }
    for (int rule : new int[] {Cases.REFUSE, Cases.KEEP}) {
      Setups.putUnits(x, 'x');
      Cases.due("no fallback under another rule", x.encode(0, rule), Cases.MISSING);
    }
    Cases.due("nor here", x.encode(0, Cases.DROP), 0);
  }

  private static void refusedWhole() {
    CountedExchange x = Setups.shifting();
    Setups.giveFallback(x, 'x', 'd', 'q');
    Setups.giveFallback(x, 'y', 'b', 'x');
    for (int unit : new int[] {'x', 'y'}) {
      x.begin(0, 0, true, Cases.FALLBACK);
      x.feed(0, 'a');
      Cases.due("refused", x.feed(0, unit), Cases.MISSING);
      Setups.dueMachine(x, 0, 1, 0, 4, 0, 2);
      Cases.due("a alone", x.take(0), 65);
      Cases.due("nothing of the fallback", x.take(0), Cases.NONE);
    }
    Setups.giveFallback(x, 'w', 'q', 'd', 'd', 'd');
    Setups.giveFallback(x, 'v', 'b', 'a');
    Setups.putUnits(x, 'a', 'y');
    Cases.due("at once", x.encode(0, Cases.FALLBACK), Cases.MISSING);
    Cases.due("the place of y", x.told(0), 1);
    Setups.putUnits(x, 'w');
    Cases.due("at its first point", x.encode(0, Cases.FALLBACK), Cases.MISSING);
    Setups.putUnits(x, 'v');
    Cases.due("nothing is left for the next one", x.encode(0, Cases.FALLBACK), 4);
    Setups.dueResult(x, 14, 65, 15, 65);
  }

  /** From 3 to 0: single 1, or 2 by 1, or 3 by 2, or 9 and 9 by 1 with less bytes than 200. */
  private static void theEnd() {
    CountedExchange x = Setups.with(Cases.TABLE);
    x.shift(0, 0, 14, 3, true);
    x.shift(0, 3, 1, 0, false);
    x.shift(0, 3, 5, 1, true);
    x.shift(0, 3, 4, 2, true);
    x.shift(0, 1, 9, 0, true);
    x.shift(0, 2, 8, 0, true);
    x.shift(0, 2, 7, 0, true);
    x.entry(0, 3, 33, 1, 'a');
    x.entry(0, 0, 33, 1, 'b');
    x.close(0);
    Setups.putUnits(x, 'a');
    Cases.due("two sticky ones, the least", x.encode(0, Cases.REFUSE), 4);
    Setups.dueResult(x, 14, 33, 4, 7);
    Setups.putUnits(x, 'a', 'b');
    Cases.due("b by the single one, then the end", x.encode(0, Cases.REFUSE), 6);
    Setups.dueResult(x, 14, 33, 1, 33, 4, 7);
    x.derive(0);
    x.shift(1, 3, 200, 0, true);
    x.close(1);
    Cases.due("one is fewer", x.encode(1, Cases.REFUSE), 5);
    Setups.dueResult(x, 14, 33, 1, 33, 200);
    x.fill(1);
    Cases.due("none from state 0", x.encode(0, Cases.REFUSE), 0);
  }

  private static void signsAtFirst() {
    CountedExchange x = Setups.with(Cases.FEW);
    Setups.putBytes(x, 0xFF);
    x.decode(0, Cases.SIGN);
    Setups.dueResult(x, 0xFFFD);
    Setups.putUnits(x, 0xD800);
    x.encode(0, Cases.SIGN);
    Setups.dueResult(x, 63);
    Cases.due("first", x.sign(0, 1), 0xFFFD);
    Cases.due("second", x.sign(1, 1), 63);
  }

  // ---- 6: fallbacks

  private static void atMostForty() {
    CountedExchange x = new CountedExchange();
    for (int i = 0; i < 40; i++) {
      Cases.due("fallback " + i, Setups.giveFallback(x, 1000 + i, 'a'), i + 1);
    }
    Cases.due("the 41st", Setups.giveFallback(x, 2000, 'a'), Cases.FULL);
    Cases.due("four points", Setups.giveFallback(x, 1000, 'a', 'b', 'c', 'd'), 40);
    Cases.due("five", Setups.giveFallback(x, 1001, 'a', 'b', 'c', 'd', 'e'), Cases.BAD);
    Cases.due("one", Setups.giveFallback(x, 1000, 'e'), 40);
    Cases.due("none", Setups.giveFallback(x, 1000), 39);
    Cases.due("the 40th again", Setups.giveFallback(x, 2000, 'a'), 40);
    Cases.due("told(9)", x.told(9), 40);
  }

  private static void wholeText() {
    CountedExchange x = Setups.with(Cases.FEW, Cases.TABLE);
    x.entry(1, 0, 1, 1, 'a');
    x.entry(1, 0, 2, 1, 'b');
    x.close(1);
    Setups.giveFallback(x, 'x', 'a', 'b', 'a');
    Setups.giveFallback(x, 'y', 'b', 'x', 'x', 'b');
    Setups.giveFallback(x, 'z', 'y', 'y');
    Setups.putUnits(x, 'z');
    Cases.due("16 points, one behind the other", x.encode(1, Cases.FALLBACK), 16);
    Setups.dueResult(x, 2, 1, 2, 1, 1, 2, 1, 2, 2, 1, 2, 1, 1, 2, 1, 2);
    Cases.due("16 and itself", Setups.giveFallback(x, 'w', 'z', 'a'), Cases.LONG);
    Cases.due("16", Setups.giveFallback(x, 'w', 'z'), 4);
    Setups.giveFallback(x, 1000, 'a', 'b', 'b', 'b');
    for (int i = 1; i < 5; i++) {
      Cases.due("each within the other", Setups.giveFallback(x, 1000 + i, 999 + i, 'a', 'a', 'b'), 5 + i);
    }
    Setups.putUnits(x, 1004);
    Cases.due("16 points, the first within the first", x.encode(1, Cases.FALLBACK), 16);
    Setups.dueResult(x, 1, 2, 2, 2, 1, 1, 2, 1, 1, 2, 1, 1, 2, 1, 1, 2);
    for (int i = 1; i < 5; i++) {
      Setups.giveFallback(x, 1000 + i, 'b', 'a', 'a', 999 + i);
    }
    Setups.putUnits(x, 1004);
    Cases.due("16 points, the last within the last", x.encode(1, Cases.FALLBACK), 16);
    Setups.dueResult(x, 2, 1, 1, 2, 1, 1, 2, 1, 1, 2, 1, 1, 1, 2, 2, 2);
  }

  private static void noLoopsNorLongOnes() {
    CountedExchange x = new CountedExchange();
    Cases.due("itself", Setups.giveFallback(x, 'x', 'x'), Cases.LOOP);
    Cases.due("itself among others", Setups.giveFallback(x, 'x', 'a', 'b', 'c', 'x'), Cases.LOOP);
    Setups.giveFallback(x, 'x', 'y');
    Cases.due("by another", Setups.giveFallback(x, 'y', 'a', 'x'), Cases.LOOP);
    Setups.giveFallback(x, 'y', 'z');
    Cases.due("by two others", Setups.giveFallback(x, 'z', 'x'), Cases.LOOP);
    Setups.giveFallback(x, 'z', 'a', 'a', 'a', 'a');
    Cases.due("16", Setups.giveFallback(x, 'w', 'x', 'y', 'z', 'z'), 4);
    Cases.due("17 by a change of another", Setups.giveFallback(x, 'a', 'b', 'b'), Cases.LONG);
    Cases.due("four times 4", Setups.giveFallback(x, 'v', 'w'), 5);
    Cases.due("17", Setups.giveFallback(x, 'u', 'w', 'a'), Cases.LONG);
    Cases.due("32", Setups.giveFallback(x, 'u', 'w', 'v'), Cases.LONG);
    Cases.due("told(9)", x.told(9), 5);
  }

  // ---- 7: input and result

  private static void atMostThousand() {
    CountedExchange x = new CountedExchange();
    Setups.putBytes(x, Setups.times(1000, 7));
    Setups.putUnits(x, Setups.times(1000, 7));
    Cases.due("bytes", x.told(5), 1000);
    Cases.due("units", x.told(6), 1000);
    Cases.due("one byte more", x.bytesIn(7, 1), Cases.FULL);
    Cases.due("one unit more", x.unitsIn(7, 1), Cases.FULL);
    Cases.due("bytes", x.told(5), 1000);
    Cases.due("units", x.told(6), 1000);
  }

  private static void atMostSixThousand() {
    CountedExchange x = Setups.wide();
    Setups.putUnits(x, Setups.times(125, 'x'));
    Cases.due("6000", x.encode(0, Cases.FALLBACK), 6000);
    Cases.due("the last value", x.result(5999), 3);
    Cases.due("behind it", x.result(6000), Cases.NONE);
    x.unitsIn('b', 1);
    Cases.due("6001", x.encode(0, Cases.FALLBACK), Cases.FULL);
    Cases.due("told(7)", x.told(7), 6000);
  }

  // ---- 8: machines

  private static void fourMachines() {
    CountedExchange x = Setups.small();
    for (int d = 0; d < 4; d++) {
      Cases.due("begin", x.begin(d, 0, d % 2 == 1, Cases.REFUSE), 0);
      Cases.due("feed", x.feed(d, d % 2 == 1 ? 'a' + d % 3 : 1 + d % 3), 1);
    }
    Cases.due("machine 4", x.begin(4, 0, false, Cases.REFUSE), Cases.BEYOND);
    Cases.due("machine -1", x.begin(-1, 0, false, Cases.REFUSE), Cases.BEYOND);
    int[] want = {'a', 2, 'c', 1};
    for (int d = 0; d < 4; d++) {
      Setups.dueTaken(x, d, want[d]);
    }
  }

  /** Rows of a byte, how many wait then, how many are kept then. */
  private static void dueKept(CountedExchange x, int p, int[][] rows) {
    x.begin(0, p, false, Cases.KEEP);
    for (int i = 0; i < rows.length; i++) {
      Cases.due("page " + p + ", feed " + i, x.feed(0, rows[i][0]), rows[i][1]);
      Cases.due("page " + p + ", kept " + i, x.machine(0, 3), rows[i][2]);
    }
  }

  private static void bytesThatAreKept() {
    CountedExchange x = Setups.with(Cases.TABLE, Cases.HIGH, Cases.LOW, Cases.FEW);
    x.entry(0, 0, 0x010203, 3, 'a');
    x.entry(0, 0, 0x0104, 2, 'b');
    x.entry(0, 0, 0x0201, 2, 'c');
    x.entry(0, 0, 9, 1, 'd');
    x.entry(0, 1, 0x0505, 2, 'e');
    x.shift(0, 0, 8, 1, false);
    x.close(0);
    dueKept(x, 0, new int[][] {{1, 0, 1}, {4, 1, 0}, {1, 1, 1}, {2, 1, 2}, {3, 2, 0}, {1, 2, 1}, {2, 2, 2}, {1, 4, 0},
        {5, 5, 0}, {8, 5, 0}, {1, 6, 0}, {8, 6, 0}, {5, 6, 1}, {9, 8, 0}, {1, 8, 1}, {2, 8, 2}, {2, 10, 1},
        {9, 12, 0}});
    dueKept(x, 1, new int[][] {{0xDC, 1, 0}, {0xDF, 2, 0}, {0xE0, 2, 1}, {0, 3, 0}, {0xD7, 3, 1}, {0xFF, 4, 0},
        {0xD8, 4, 1}, {0, 4, 2}, {0xDC, 4, 3}, {0, 6, 0}, {0xDB, 6, 1}, {0xFF, 6, 2}, {0xDB, 8, 0}, {0, 8, 1},
        {0xE0, 9, 0}, {0xDC, 10, 0}, {0, 10, 1}, {0x41, 11, 0}, {0xDF, 12, 0}});
    int[] want = {0xDCDC, 0xDCDF, 0xE000, 0xD7FF, 0xD800, 0xDC00, 0xDCDB, 0xFFDB, 0x00E0, 0xDCDC, 0x0041, 0xDCDF};
    Setups.dueTaken(x, 0, want);
    dueKept(x, 2, new int[][] {{0xDC, 0, 1}, {0xDC, 1, 1}, {0xDB, 1, 2}, {0xFF, 1, 3}, {0xDF, 3, 0}, {0, 3, 1},
        {0xE0, 4, 0}, {0, 4, 1}, {0xD8, 4, 2}, {0, 4, 3}, {0xDB, 6, 1}});
    dueKept(x, 3, new int[][] {{0x7F, 1, 0}, {0x80, 2, 0}, {0xC1, 3, 0}, {0xC2, 3, 1}, {0x80, 4, 0}, {0xE0, 4, 1},
        {0xA0, 4, 2}, {0x80, 5, 0}, {0xE0, 5, 1}, {0x9F, 7, 0}, {0xED, 7, 1}, {0x9F, 7, 2}, {0xBF, 8, 0}, {0xED, 8, 1},
        {0xA0, 10, 0}, {0xF0, 10, 1}, {0x90, 10, 2}, {0x80, 10, 3}, {0x80, 12, 0}, {0xF0, 12, 1}, {0x8F, 14, 0},
        {0xF4, 14, 1}, {0x8F, 14, 2}, {0xF4, 16, 1}, {0x90, 18, 0}, {0xF5, 19, 0}, {0xFF, 20, 0}});
  }

  private static void aKeptHighHalf() {
    CountedExchange x = Setups.with(Cases.FEW);
    x.begin(0, 0, true, Cases.SIGN);
    int[][] rows = {{0xD7FF, 3, 0}, {0xD800, 3, 1}, {0xDC00, 7, 0}, {0xDBFF, 7, 1}, {0xDBFF, 8, 1}, {0xDFFF, 12, 0},
        {0xDFFF, 13, 0}, {0xD800, 13, 1}, {0xE000, 17, 0}, {0xD800, 17, 1}, {'a', 19, 0}};
    for (int[] row : rows) {
      Cases.due("feed " + Integer.toHexString(row[0]), x.feed(0, row[0]), row[1]);
      Cases.due("kept", x.machine(0, 3), row[2]);
    }
  }

  private static void justAsAtOnce() {
    int[] bytes = {65, 27, 0x41, 65, 14, 65, 28, 0x41, 0x42, 16, 0x43, 0x44, 17, 0xFF, 0, 14, 16, 0x43, 0x44, 0x45, 27};
    int[] units = {'a', 0xD800, 'b', 0xDC41, 'c', 'q', 0xD83D, 0xDE00, 'd', 0xDBFF};
    CountedExchange x = Setups.shifting();
    x.sign(1, 'd');
    Setups.putBytes(x, bytes);
    Setups.putUnits(x, units);
    for (int rule = Cases.SIGN; rule <= Cases.KEEP; rule++) {
      x.begin(0, 0, false, rule);
      for (int b : bytes) {
        x.feed(0, b);
      }
      Cases.due("how many", x.end(0), x.decode(0, rule));
      int many = x.told(7);
      for (int i = 0; i < many; i++) {
        Cases.due("rule " + rule + ", unit " + i, x.take(0), x.result(i));
      }
    }
    for (int rule = Cases.SIGN; rule <= Cases.DROP; rule++) {
      x.begin(0, 0, true, rule);
      for (int unit : units) {
        x.feed(0, unit);
      }
      Cases.due("how many", x.end(0), x.encode(0, rule));
      int many = x.told(7);
      for (int i = 0; i < many; i++) {
        Cases.due("rule " + rule + ", byte " + i, x.take(0), x.result(i));
      }
    }
  }

  /** Other calls between two values, by the same page, do not come to what a machine does. */
  private static void justAsAlone() {
    CountedExchange x = Setups.shifting();
    x.begin(0, 0, false, Cases.KEEP);
    x.begin(1, 0, true, Cases.DROP);
    x.begin(2, 0, false, Cases.KEEP);
    x.begin(3, 0, true, Cases.DROP);
    int[] bytes = {14, 28, 0x41, 0x42, 16, 0x43, 0x44, 0x45, 17, 65};
    int[] units = {'b', 'd', 0xD83D, 0xDE00, 'c', 'b', 'a', 'd', 'c', 0xD800};
    Setups.putBytes(x, 65, 27, 0x41, 9);
    Setups.putUnits(x, 'c', 'd', 'q');
    for (int i = 0; i < bytes.length; i++) {
      x.feed(0, bytes[i]);
      x.feed(1, units[i]);
      x.decode(0, Cases.SIGN);
      x.encode(0, Cases.SIGN);
      x.lengths(0, 0);
      x.faults(0);
      x.feed(2, bytes[bytes.length - 1 - i]);
      x.feed(3, units[units.length - 1 - i]);
      x.transcode(0, Cases.KEEP, 0, Cases.DROP);
    }
    x.end(0);
    x.end(1);
    Setups.dueTaken(x, 0, 'c', 'd', 'a');
    Setups.dueTaken(x, 1, 14, 65, 16, 0x43, 0x44, 0x45, 17, 27, 0x41, 0x42, 14, 65, 15, 65, 14, 16, 0x43, 0x44, 0x45,
        17, 27, 0x41, 0x42);
    x.end(2);
    x.end(3);
    Setups.dueTaken(x, 2, 'a', 0xDC11, 0xDC45, 0xDC44, 0xDC43, 0xDC10, 0xDC42, 'a', 0xDC1C);
    Setups.dueTaken(x, 3, 27, 0x41, 0x42, 14, 16, 0x43, 0x44, 0x45, 17, 65, 14, 65, 28, 0x41, 0x42, 16, 0x43, 0x44,
        0x45, 17, 14, 65, 15);
  }

  private static void overReading() {
    CountedExchange x = Setups.shifting();
    x.begin(0, 0, false, Cases.REFUSE);
    x.feed(0, 65);
    x.feed(0, 14);
    x.feed(0, 65);
    x.feed(0, 28);
    x.feed(0, 0x41);
    Setups.dueMachine(x, 0, 2, 1, 2, 1, 0);
    Cases.due("refused", x.feed(0, 0x41), Cases.MALFORMED);
    Setups.dueMachine(x, 0, 2, 1, 4, 0, 2);
    Setups.dueTaken(x, 0, 'a', 'b');
    x.begin(1, 0, true, Cases.REFUSE);
    x.feed(1, 'd');
    x.feed(1, 0xD800);
    Cases.due("refused", x.feed(1, 'a'), Cases.MISSING);
    Setups.dueMachine(x, 1, 5, 3, 4, 0, 2);
    Setups.dueTaken(x, 1, 14, 16, 0x43, 0x44, 0x45);
  }

  static Cases cases() {
    Cases all = new Cases();
    pages(all);
    reading(all);
    writing(all);
    others(all);
    return all;
  }

  private static void pages(Cases all) {
    all.section("Term 1")
        .say("BYTES are 0 to 255, UNITS 0 to 65535.", TermsTest::bytesAndUnits)
        .say("Units 0xD800 to 0xDBFF are HIGH HALVES, 0xDC00 to 0xDFFF LOW HALVES.", TermsTest::halves)
        .say("POINTS are 0 to 0x10FFFF but the halves.", TermsTest::points)
        .say("The units of a point below 0x10000: itself; of another one: 0xD800 and a 1024th of (it less 0x10000), "
            + "then 0xDC00 and what is left of that.", TermsTest::unitsOfAPoint)
        .say("A row of units is read from the left: a high half with a low half behind it is a point; so is each unit "
            + "that is no half; each other half is LONE.", TermsTest::readFromTheLeft);
    all.section("Term 2")
        .say("PAGES 0, 1, .. (at most 10) are of a kind: 0 TABLE, 1 HIGH, 2 LOW, 3 FEW.", TermsTest::atMostTenPages)
        .say("A TABLE page is open at first, and may be closed; the others are closed.", TermsTest::openAtFirst)
        .say("It has STATES 0 to 3; ENTRIES (at most 100), each of a state, with a BYTE TEXT of one to three bytes and "
            + "a point, PREFERRED or not; SHIFTS (at most 10), each of a state, with a byte and another state that it "
            + "goes to, STICKY or SINGLE.", TermsTest::boundsOfATable)
        .say("Entries are numbered 0, 1, .. in the order in which they came, shifts likewise (one that is taken away "
            + "leaves no gap).", TermsTest::noGaps)
        .say("A state is REACHED when it is 0, or a sticky shift of a reached one goes to it.", TermsTest::reached)
        .say("HIGH has an entry for each point: the bytes of its units, of each the high one first; LOW likewise, the "
            + "low one first.", TermsTest::highAndLow)
        .say("FEW: of a point below 0x80 one byte, it; below 0x800 two: 0xC0 and its bits from the 6th on, 0x80 and "
            + "the lowest 6; below 0x10000 three: 0xE0 and its bits from the 12th on, 0x80 and the next 6, 0x80 and "
            + "the lowest 6; of others four: 0xF0 and its bits from the 18th on, then three times 0x80 and the next 6.",
            TermsTest::few)
        .say("All are in state 0 and preferred; there are no shifts.", TermsTest::allInStateZero);
    all.section("Term 3")
        .say("A TABLE IS GOOD by rules: 1 no byte text of an entry or shift of a state begins with (or is) that of "
            + "another one of this state;", TermsTest::beginsWithNone, TermsTest::beginsWithNoShift)
        .say("2 of the entries of a point just one is preferred;", TermsTest::justOnePreferred)
        .say("3 from each reached state sticky shifts lead to state 0;", TermsTest::leadToZero)
        .say("4 the state of each preferred entry is reached, or a single shift of a reached state goes to it.",
            TermsTest::preferredAreWritten);
  }

  private static void reading(Cases all) {
    all.section("Term 4")
        .say("READING by a closed page, from a state (0 at first), with nothing PENDING: what stands at the place that "
            + "is due: with nothing pending an entry or a shift of the state, with a state pending an entry of that "
            + "one. (By rule 1 there is one at most.)", TermsTest::whatIsDue, TermsTest::edgesOfEachState)
        .say("An entry: the units of its point; nothing is pending then.", TermsTest::anEntry)
        .say("A sticky shift: its goal is the state.", TermsTest::aStickyShift)
        .say("A single shift: its goal is pending.", TermsTest::aSingleShift)
        .say("Then it goes on behind it.", TermsTest::goesOnBehind)
        .say("When none stands there whole (also when the bytes end within one) the byte there is MALFORMED: the rule "
            + "tells what comes of it, nothing is pending then, and it goes on behind that byte.",
            TermsTest::noneStandsWhole, TermsTest::nothingBehindTheEnd)
        .say("RULES: 0 REFUSE; 1 SIGN: the units of the first sign; 2 DROP: nothing; 3 KEEP: the unit 0xDC00 and the "
            + "byte.", TermsTest::rulesOfReading);
  }

  private static void writing(Cases all) {
    all.section("Term 5")
        .say("WRITING by a closed page, from a state (0 at first): each point by its preferred entry: shifts that lead "
            + "to its state, each sticky but the last one, which may be single;", TermsTest::shiftsThatLead)
        .say("as few as may be;", TermsTest::fewRatherThanLeast)
        .say("of these those whose bytes are least (the first that differs tells); then the byte text.",
            TermsTest::waysOfShifts)
        .say("The state is then what the sticky ones led to.", TermsTest::whatTheStickyOnesLedTo)
        .say("Points without an entry and lone halves are MISSING.", TermsTest::missing)
        .say("RULES: 0 REFUSE; 1 SIGN: the second sign by its entry, nothing when it has none;",
            TermsTest::signOfWriting)
        .say("2 DROP: nothing;", TermsTest::dropOfWriting)
        .say("3 KEEP: of a lone 0xDC00 to 0xDCFF the byte that it is above 0xDC00, as it is (no shift); others are "
            + "refused;", TermsTest::keepOfWriting)
        .say("4 FALLBACK: of a point that has a fallback the points of this, one by one, each by its entry, or, where "
            + "it has none, by its fallback likewise; without one it is refused, so are lone halves",
            TermsTest::fallbackOfWriting)
        .say("(refused whole: nothing of the fallback is written when one of its points is).", TermsTest::refusedWhole)
        .say("THE END: the fewest sticky shifts to state 0; of these those whose bytes are least.", TermsTest::theEnd)
        .say("The signs are 0xFFFD and 63 at first.", TermsTest::signsAtFirst);
  }

  private static void others(Cases all) {
    all.section("Term 6")
        .say("FALLBACKS: at most 40 points have one, a row of one to four points.", TermsTest::atMostForty)
        .say("THE WHOLE TEXT of a point: of one with a fallback the whole texts of the points of this, one behind the "
            + "other; of another one itself.", TermsTest::wholeText)
        .say("No whole text has its own point within what comes of it, none has more than 16 points.",
            TermsTest::noLoopsNorLongOnes);
    all.section("Term 7")
        .say("INPUT: a row of at most 1000 bytes, and one of at most 1000 units.", TermsTest::atMostThousand)
        .say("RESULT: a row of units or bytes, at most 6000.", TermsTest::atMostSixThousand);
    all.section("Term 8")
        .say("MACHINES 0 to 3 read (bytes to units) or write (units to bytes) one by one:", TermsTest::fourMachines)
        .say("what comes of what was fed WAITS to be taken, as early as it is certain: a reading one keeps bytes as "
            + "long as they are the beginning of a longer byte text that may be due;", TermsTest::bytesThatAreKept)
        .say("a writing one keeps a high half till the next unit.", TermsTest::aKeptHighHalf)
        .say("What waits, taken, and ended is just what reading or writing all at once tells.",
            TermsTest::justAsAtOnce, TermsTest::justAsAlone)
        .say("It is OVER with what is refused (what came ahead of it still waits): its state is as it was ahead of "
            + "that, nothing is pending, it keeps nothing.", TermsTest::overReading);
  }

  public static void main(String[] args) {
    cases().run();
  }
}
