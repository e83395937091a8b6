/** The sentences of promises 1 to 9 (a new object, pages), each with a test of its own. */
public final class PagesTest {
  private PagesTest() { }

  /** The calls that ask for a table that is open. */
  private static int[] changes(CountedExchange x, int p) {
    return new int[] {x.entry(p, 0, 1, 1, 'a'), x.shift(p, 0, 1, 1, true), x.drop(p, 0, 1, 1), x.close(p)};
  }

  // ---- what it is

  private static void the512thCall() {
    CountedExchange x = new CountedExchange();
    for (int i = 0; i < 511; i++) {
      Cases.due("page(4)", x.page(4), Cases.BEYOND);
    }
    Cases.due("the 512th call: told(10)", x.told(10), 511);
    CountedExchange y = Setups.small();
    while (y.calls() < 510) {
      Cases.due("send(0)", y.send(0), 25);
    }
    Cases.due("the 511th call: fill(2)", y.fill(2), 25);
    Cases.due("the 512th call: receive()", y.receive(), 1);
    CountedExchange z = Setups.with(Cases.FEW);
    z.begin(0, 0, false, Cases.REFUSE);
    for (int i = 0; i < 255; i++) {
      Cases.due("feed", z.feed(0, i % 128), 1);
      Cases.due("take", z.take(0), i % 128);
    }
  }

  // ---- promise 1

  private static void aNewObject() {
    CountedExchange x = new CountedExchange();
    for (int what = 0; what <= 10; what++) {
      Cases.due("told(" + what + ")", x.told(what), 0);
    }
    Cases.due("size(0, 0)", x.size(0, 0), Cases.BEYOND);
    Cases.due("detect()", x.detect(), Cases.NONE);
    Cases.due("result(0)", x.result(0), Cases.NONE);
    Cases.due("fill(0)", x.fill(0), 0);
    Cases.due("fill(1)", x.fill(1), 0);
    Cases.due("fill(2)", x.fill(2), Cases.NONE);
    Cases.due("fill(3)", x.fill(3), Cases.NONE);
    Cases.due("receive()", x.receive(), Cases.SUM);
    Cases.due("fallback(65)", x.fallback(65), 0);
    for (int d = 0; d < 4; d++) {
      Cases.due("machine", x.machine(d, 0), Cases.NONE);
      Cases.due("take", x.take(d), Cases.NONE);
      Cases.due("feed", x.feed(d, 1), Cases.NONE);
      Cases.due("end", x.end(d), Cases.NONE);
    }
  }

  /** What one object was told is not told to another. */
  private static void objectsAreApart() {
    CountedExchange x = Setups.shifting();
    x.sign(0, 'a');
    x.sign(1, 'a');
    Setups.giveFallback(x, 'x', 'a');
    Setups.putBytes(x, 65);
    x.begin(0, 0, false, Cases.REFUSE);
    aNewObject();
    CountedExchange y = new CountedExchange();
    Cases.due("first sign", y.sign(0, 'b'), 0xFFFD);
    Cases.due("second sign", y.sign(1, 'b'), 63);
    Cases.due("first sign", x.sign(0, 'c'), 'a');
  }

  // ---- promise 2: page

  private static void pageNumbers() {
    for (int kind = 0; kind < 4; kind++) {
      CountedExchange x = new CountedExchange();
      for (int p = 0; p < 10; p++) {
        Cases.due("page(" + kind + ")", x.page(kind), p);
      }
      Cases.due("kind of the first", x.size(0, 0), kind);
      Cases.due("kind of the last", x.size(9, 0), kind);
      Cases.due("no entries", x.size(9, 2), 0);
      Cases.due("no shifts", x.size(9, 3), 0);
    }
  }

  private static void pageKindBeyond() {
    CountedExchange x = new CountedExchange();
    for (int odd : Cases.ODD) {
      Cases.due("page(" + odd + ")", x.page(odd), Cases.BEYOND);
    }
    Cases.due("page(4)", x.page(4), Cases.BEYOND);
    Cases.due("none came", x.told(4), 0);
    for (int kind = 0; kind < 4; kind++) {
      Cases.due("page(" + kind + ")", x.page(kind), kind);
    }
  }

  private static void pageFull() {
    CountedExchange x = Setups.with(0, 1, 2, 3, 0, 1, 2, 3, 0);
    Cases.due("the 10th", x.page(Cases.FEW), 9);
    for (int kind = 0; kind < 4; kind++) {
      Cases.due("the 11th", x.page(kind), Cases.FULL);
    }
    Cases.due("told(4)", x.told(4), 10);
  }

  // ---- promise 3: derive

  private static void deriveAll() {
    CountedExchange x = Setups.shifting();
    Cases.due("derive", x.derive(0), 1);
    Cases.due("kind", x.size(1, 0), Cases.TABLE);
    Cases.due("open", x.size(1, 1), 0);
    Cases.due("entries", x.size(1, 2), 4);
    Cases.due("shifts", x.size(1, 3), 6);
    Cases.due("a change", x.entry(1, 0, 65, 1, 'z'), 1);
    Cases.due("a change", x.drop(1, 0, 27, 1), 1);
    Cases.due("close", x.close(1), 0);
    Cases.due("the new page", x.code(1, 'z'), Setups.text(1, 65));
    Cases.due("the old page", x.code(0, 'z'), Cases.NONE);
    Cases.due("the old page", x.code(0, 'a'), Setups.text(1, 65));
    Cases.due("the old page's shifts", x.size(0, 3), 6);
    Cases.due("derive of a derived one", x.derive(1), 2);
    Cases.due("as it was derived", x.close(2), 0);
    Cases.due("differ", x.differ(1, 2, 0), Cases.NONE);
  }

  private static void deriveEmptyAndFull() {
    CountedExchange x = Setups.with(Cases.TABLE);
    x.close(0);
    Cases.due("of an empty page", x.derive(0), 1);
    Cases.due("no entries", x.size(1, 2), 0);
    for (int i = 0; i < 100; i++) {
      x.entry(1, 0, i, 1, i);
    }
    for (int i = 0; i < 10; i++) {
      x.shift(1, 0, 200 + i, 1, false);
    }
    Cases.due("close", x.close(1), 0);
    Cases.due("of a full page", x.derive(1), 2);
    Cases.due("its 101st entry", x.entry(2, 0, 100, 1, 100), Cases.FULL);
    Cases.due("its 11th shift", x.shift(2, 0, 220, 1, false), Cases.FULL);
    Cases.due("one that was there", x.entry(2, 0, 99, 1, 100), 1);
    Cases.due("close", x.close(2), 0);
    Cases.due("the first that differs", x.differ(1, 2, 0), 99);
  }

  private static void deriveBeyond() {
    CountedExchange x = new CountedExchange();
    Cases.due("no pages", x.derive(0), Cases.BEYOND);
    x.page(Cases.TABLE);
    x.close(0);
    for (int odd : Cases.ODD) {
      Cases.due("derive(" + odd + ")", x.derive(odd), Cases.BEYOND);
    }
    Cases.due("derive(1)", x.derive(1), Cases.BEYOND);
    Cases.due("derive(0)", x.derive(0), 1);
    Cases.due("derive(10)", x.derive(10), Cases.BEYOND);
  }

  private static void deriveKind() {
    CountedExchange x = Setups.with(Cases.HIGH, Cases.LOW, Cases.FEW);
    for (int p = 0; p < 3; p++) {
      Cases.due("derive(" + p + ")", x.derive(p), Cases.KIND);
    }
    Cases.due("pages", x.told(4), 3);
  }

  private static void deriveOpen() {
    CountedExchange x = Setups.with(Cases.TABLE);
    Cases.due("open", x.derive(0), Cases.OPEN);
    x.close(0);
    Cases.due("closed", x.derive(0), 1);
    Cases.due("the new one is open", x.derive(1), Cases.OPEN);
  }

  private static void deriveFull() {
    CountedExchange x = Setups.small();
    for (int p = 1; p < 10; p++) {
      Cases.due("derive", x.derive(0), p);
    }
    Cases.due("the 11th", x.derive(0), Cases.FULL);
    Cases.due("pages", x.told(4), 10);
  }

  // ---- promise 4: entry

  private static void entryBytesAndCode() {
    CountedExchange x = Setups.with(Cases.TABLE);
    x.entry(0, 0, 0x010203, 3, 'a');
    x.entry(0, 0, 0x0405, 2, 'b');
    x.entry(0, 0, 0xFF, 1, 0);
    x.entry(0, 0, 0x000007, 3, 'd');
    x.entry(0, 0, 0xFE, 1, -1);
    x.entry(0, 0, 0xFD, 1, 0x10FFFF);
    x.entry(0, 0, 0xFC, 1, -1 - 0x10FFFF);
    Cases.due("close", x.close(0), 0);
    Cases.due("a", x.code(0, 'a'), Setups.text(3, 0x010203));
    Cases.due("b", x.code(0, 'b'), Setups.text(2, 0x0405));
    Cases.due("point 0", x.code(0, 0), Setups.text(1, 0xFF));
    Cases.due("d", x.code(0, 'd'), Setups.text(3, 7));
    Cases.due("the last point", x.code(0, 0x10FFFF), Setups.text(1, 0xFD));
    Setups.putBytes(x, 1, 2, 3, 4, 5, 0xFF, 0, 0, 7, 0xFE, 0xFD, 0xFC);
    Cases.due("decode", x.decode(0, Cases.REFUSE), 9);
    Setups.dueResult(x, 'a', 'b', 0, 'd', 0, 0xDBFF, 0xDFFF, 0xDBFF, 0xDFFF);
  }

  private static void entryThere() {
    CountedExchange x = Setups.with(Cases.TABLE);
    Cases.due("new", x.entry(0, 0, 7, 1, 'a'), 0);
    Cases.due("new", x.entry(0, 0, 8, 1, 'b'), 0);
    Cases.due("of another length", x.entry(0, 0, 7, 2, 'c'), 0);
    Cases.due("of another length", x.entry(0, 0, 7, 3, 'd'), 0);
    Cases.due("of another state", x.entry(0, 1, 7, 1, 'e'), 0);
    Cases.due("just that", x.entry(0, 0, 7, 1, 'z'), 1);
    Cases.due("the same once more", x.entry(0, 0, 7, 1, 'z'), 1);
    Cases.due("entries", x.size(0, 2), 5);
    x.drop(0, 0, 7, 2);
    x.drop(0, 0, 7, 3);
    x.drop(0, 1, 7, 1);
    Cases.due("not preferred now", x.entry(0, 0, 8, 1, -1 - 'z'), 1);
    Cases.due("close", x.close(0), 0);
    Cases.due("send", x.send(0), 18);
    int[] row = {2, 0, 1, 7, 0, 0, 'z', 1, 0, 1, 8, 0, 0, 'z', 0, 0};
    for (int i = 0; i < row.length; i++) {
      Cases.due("with its number: result(" + i + ")", x.result(i), row[i]);
    }
  }

  private static void entryNoPage() {
    CountedExchange x = new CountedExchange();
    Cases.due("no pages", x.entry(0, 0, 1, 1, 'a'), Cases.BEYOND);
    x.page(Cases.TABLE);
    for (int odd : Cases.ODD) {
      Cases.due("page " + odd, x.entry(odd, 0, 1, 1, 'a'), Cases.BEYOND);
    }
    Cases.due("page 1", x.entry(1, 0, 1, 1, 'a'), Cases.BEYOND);
    Cases.due("page 0", x.entry(0, 0, 1, 1, 'a'), 0);
  }

  private static void entryKind() {
    CountedExchange x = Setups.with(Cases.HIGH, Cases.LOW, Cases.FEW);
    for (int p = 0; p < 3; p++) {
      Cases.due("page " + p, x.entry(p, 0, 1, 1, 'a'), Cases.KIND);
      Cases.due("entries", x.size(p, 2), 0);
    }
  }

  private static void entryClosed() {
    CountedExchange x = Setups.small();
    Cases.due("a new one", x.entry(0, 0, 9, 1, 'z'), Cases.CLOSED);
    Cases.due("one that is there", x.entry(0, 0, 1, 1, 'z'), Cases.CLOSED);
    Cases.due("entries", x.size(0, 2), 3);
    Cases.due("a", x.code(0, 'a'), Setups.text(1, 1));
  }

  private static void entryBeyond() {
    CountedExchange x = Setups.with(Cases.TABLE);
    for (int odd : Cases.ODD) {
      Cases.due("state " + odd, x.entry(0, odd, 1, 1, 'a'), Cases.BEYOND);
      Cases.due("n " + odd, x.entry(0, 0, 1, odd, 'a'), Cases.BEYOND);
      Cases.due("bytes " + odd, x.entry(0, 0, odd, 3, 'a'), Cases.BEYOND);
    }
    Cases.due("state 4", x.entry(0, 4, 1, 1, 'a'), Cases.BEYOND);
    Cases.due("n 0", x.entry(0, 0, 0, 0, 'a'), Cases.BEYOND);
    Cases.due("n 4", x.entry(0, 0, 1, 4, 'a'), Cases.BEYOND);
    Cases.due("n 5", x.entry(0, 0, 1, 5, 'a'), Cases.BEYOND);
    for (int n = 1; n <= 3; n++) {
      Cases.due("too great for " + n, x.entry(0, 0, 1 << (8 * n), n, 'a'), Cases.BEYOND);
      Cases.due("below 0 for " + n, x.entry(0, 0, -1, n, 'a'), Cases.BEYOND);
    }
    int[] noPoints = {0xD800, 0xDBFF, 0xDC00, 0xDFFF, 0x110000, Integer.MAX_VALUE, -1 - 0xD800, -1 - 0xDFFF,
        -1 - 0x110000, Integer.MIN_VALUE};
    for (int code : noPoints) {
      Cases.due("code " + code, x.entry(0, 0, 1, 1, code), Cases.BEYOND);
    }
    Cases.due("none came", x.size(0, 2), 0);
    for (int n = 1; n <= 3; n++) {
      Cases.due("the greatest of " + n, x.entry(0, 0, (1 << (8 * n)) - 1, n, 'a'), 0);
      Cases.due("0 of " + n, x.entry(0, 3, 0, n, 'a'), 0);
    }
    int[] points = {0, 0xD7FF, 0xE000, 0x10FFFF, -1, -1 - 0xD7FF, -1 - 0xE000, -1 - 0x10FFFF};
    for (int i = 0; i < points.length; i++) {
      Cases.due("code " + points[i], x.entry(0, i % 4, 100 + i, 1, points[i]), 0);
    }
  }

  private static void entryFull() {
    CountedExchange x = Setups.with(Cases.TABLE);
    for (int i = 0; i < 100; i++) {
      Cases.due("entry " + i, x.entry(0, 0, i, 1, i), 0);
    }
    Cases.due("the 101st", x.entry(0, 0, 100, 1, 100), Cases.FULL);
    Cases.due("the same bytes in another state", x.entry(0, 1, 99, 1, 99), Cases.FULL);
    Cases.due("the same bytes, longer", x.entry(0, 0, 99, 2, 99), Cases.FULL);
    Cases.due("the first that was there", x.entry(0, 0, 0, 1, 200), 1);
    Cases.due("the last that was there", x.entry(0, 0, 99, 1, 201), 1);
    Cases.due("entries", x.size(0, 2), 100);
    Cases.due("one goes", x.drop(0, 0, 50, 1), 0);
    Cases.due("one comes", x.entry(0, 0, 100, 1, 100), 0);
    Cases.due("full again", x.entry(0, 0, 50, 1, 50), Cases.FULL);
    Cases.due("close", x.close(0), 0);
    Cases.due("200", x.code(0, 200), Setups.text(1, 0));
    Cases.due("201", x.code(0, 201), Setups.text(1, 99));
    Cases.due("100", x.code(0, 100), Setups.text(1, 100));
    Cases.due("50", x.code(0, 50), Cases.NONE);
    Setups.putBytes(x, 0, 99, 100, 50);
    Cases.due("read", x.decode(0, Cases.KEEP), 4);
    Setups.dueResult(x, 200, 201, 100, 0xDC32);
  }

  // ---- promise 5: shift

  private static void shiftComes() {
    CountedExchange x = Setups.with(Cases.TABLE);
    Cases.due("sticky", x.shift(0, 0, 0, 1, true), 0);
    Cases.due("single", x.shift(0, 1, 255, 0, false), 0);
    Cases.due("between 3 and 2", x.shift(0, 3, 1, 2, true), 0);
    Cases.due("between 2 and 3", x.shift(0, 2, 1, 3, false), 0);
    Cases.due("shifts", x.size(0, 3), 4);
    x.shift(0, 1, 9, 0, true);
    x.close(0);
    Cases.due("send", x.send(0), 2 + 5 * 4 + 2);
    int[] row = {0, 5, 0, 0, 1, 1, 1, 255, 0, 0, 3, 1, 2, 1, 2, 1, 3, 0, 1, 9, 0, 1};
    for (int i = 0; i < row.length; i++) {
      Cases.due("result(" + i + ")", x.result(i), row[i]);
    }
  }

  private static void shiftNoPage() {
    CountedExchange x = new CountedExchange();
    Cases.due("no pages", x.shift(0, 0, 1, 1, true), Cases.BEYOND);
    x.page(Cases.TABLE);
    for (int odd : Cases.ODD) {
      Cases.due("page " + odd, x.shift(odd, 0, 1, 1, true), Cases.BEYOND);
    }
    Cases.due("page 1", x.shift(1, 0, 1, 1, true), Cases.BEYOND);
    Cases.due("page 0", x.shift(0, 0, 1, 1, true), 0);
  }

  private static void shiftKind() {
    CountedExchange x = Setups.with(Cases.HIGH, Cases.LOW, Cases.FEW);
    for (int p = 0; p < 3; p++) {
      Cases.due("page " + p, x.shift(p, 0, 1, 1, true), Cases.KIND);
      Cases.due("shifts", x.size(p, 3), 0);
    }
  }

  private static void shiftClosed() {
    CountedExchange x = Setups.small();
    Cases.due("closed", x.shift(0, 0, 9, 1, true), Cases.CLOSED);
    Cases.due("shifts", x.size(0, 3), 0);
  }

  private static void shiftBeyond() {
    CountedExchange x = Setups.with(Cases.TABLE);
    for (int odd : Cases.ODD) {
      Cases.due("state " + odd, x.shift(0, odd, 1, 1, true), Cases.BEYOND);
      Cases.due("to " + odd, x.shift(0, 0, 1, odd, true), Cases.BEYOND);
      Cases.due("both " + odd, x.shift(0, odd, 1, odd, true), Cases.BEYOND);
      Cases.due("b " + odd, x.shift(0, 0, odd, 1, true), Cases.BEYOND);
    }
    Cases.due("state 4", x.shift(0, 4, 1, 1, true), Cases.BEYOND);
    Cases.due("to 4", x.shift(0, 0, 1, 4, true), Cases.BEYOND);
    Cases.due("b 256", x.shift(0, 0, 256, 1, true), Cases.BEYOND);
    for (int state = 0; state < 4; state++) {
      Cases.due("the same, sticky", x.shift(0, state, 1, state, true), Cases.BEYOND);
      Cases.due("the same, single", x.shift(0, state, 1, state, false), Cases.BEYOND);
    }
    Cases.due("none came", x.size(0, 3), 0);
    Cases.due("3 to 0 by 255", x.shift(0, 3, 255, 0, true), 0);
    Cases.due("0 to 3 by 0", x.shift(0, 0, 0, 3, true), 0);
  }

  private static void shiftThere() {
    CountedExchange x = Setups.with(Cases.TABLE);
    x.entry(0, 0, 14, 1, 'a');
    Cases.due("an entry is no shift", x.shift(0, 0, 14, 1, true), 0);
    Cases.due("the same", x.shift(0, 0, 14, 1, true), Cases.THERE);
    Cases.due("single", x.shift(0, 0, 14, 1, false), Cases.THERE);
    Cases.due("to another", x.shift(0, 0, 14, 2, true), Cases.THERE);
    Cases.due("of another state", x.shift(0, 1, 14, 0, true), 0);
    Cases.due("with another byte", x.shift(0, 0, 15, 1, true), 0);
    Cases.due("shifts", x.size(0, 3), 3);
    x.drop(0, 0, 14, 1);
    Cases.due("the shift goes", x.drop(0, 0, 14, 1), 1);
    Cases.due("and comes", x.shift(0, 0, 14, 2, false), 0);
  }

  private static void shiftFull() {
    CountedExchange x = Setups.with(Cases.TABLE);
    for (int i = 0; i < 10; i++) {
      Cases.due("shift " + i, x.shift(0, i % 4, i, (i + 1) % 4, true), 0);
    }
    Cases.due("the 11th", x.shift(0, 0, 100, 1, true), Cases.FULL);
    Cases.due("the 11th, single", x.shift(0, 3, 100, 1, false), Cases.FULL);
    Cases.due("shifts", x.size(0, 3), 10);
    Cases.due("one goes", x.drop(0, 0, 0, 1), 1);
    Cases.due("one comes", x.shift(0, 0, 100, 1, true), 0);
    Cases.due("full again", x.shift(0, 0, 0, 1, true), Cases.FULL);
    CountedExchange y = Setups.with(Cases.TABLE);
    for (int i = 0; i < 10; i++) {
      y.shift(0, 0, 9 - i, 1, false);
    }
    y.entry(0, 1, 0, 1, 'a');
    y.close(0);
    Setups.putBytes(y, 9, 0, 0, 0);
    Cases.due("the first and the tenth are read", y.decode(0, Cases.REFUSE), 2);
    Setups.putUnits(y, 'a');
    Cases.due("the tenth is written, as it is the least", y.encode(0, Cases.REFUSE), 2);
    Setups.dueResult(y, 0, 0);
  }

  // ---- promise 6: drop

  private static void dropEntryOrShift() {
    CountedExchange x = Setups.with(Cases.TABLE);
    x.entry(0, 0, 1, 1, 'a');
    x.entry(0, 0, 1, 2, 'b');
    x.entry(0, 0, 1, 3, 'c');
    x.entry(0, 1, 1, 1, 'd');
    x.shift(0, 0, 1, 1, true);
    x.shift(0, 1, 1, 0, true);
    Cases.due("the entry", x.drop(0, 0, 1, 1), 0);
    Cases.due("shifts", x.size(0, 3), 2);
    Cases.due("the shift", x.drop(0, 0, 1, 1), 1);
    Cases.due("neither", x.drop(0, 0, 1, 1), Cases.NONE);
    Cases.due("shifts", x.size(0, 3), 1);
    Cases.due("entries", x.size(0, 2), 3);
    Cases.due("of three bytes", x.drop(0, 0, 1, 3), 0);
    Cases.due("of two bytes", x.drop(0, 0, 1, 2), 0);
    Cases.due("of state 1", x.drop(0, 1, 1, 1), 0);
    Cases.due("entries", x.size(0, 2), 0);
    Cases.due("the shift of state 1", x.drop(0, 1, 1, 1), 1);
    Cases.due("shifts", x.size(0, 3), 0);
  }

  private static void dropAsOfEntry() {
    CountedExchange x = Setups.small();
    Cases.due("closed", x.drop(0, 0, 1, 1), Cases.CLOSED);
    for (int odd : Cases.ODD) {
      Cases.due("page " + odd, x.drop(odd, 0, 1, 1), Cases.BEYOND);
    }
    Cases.due("page 1", x.drop(1, 0, 1, 1), Cases.BEYOND);
    for (int kind = 1; kind < 4; kind++) {
      x.page(kind);
      Cases.due("kind " + kind, x.drop(kind, 0, 1, 1), Cases.KIND);
    }
    x.derive(0);
    for (int odd : Cases.ODD) {
      Cases.due("state " + odd, x.drop(4, odd, 1, 1), Cases.BEYOND);
      Cases.due("n " + odd, x.drop(4, 0, 1, odd), Cases.BEYOND);
      Cases.due("bytes " + odd, x.drop(4, 0, odd, 3), Cases.BEYOND);
    }
    Cases.due("state 4", x.drop(4, 4, 1, 1), Cases.BEYOND);
    Cases.due("n 0", x.drop(4, 0, 0, 0), Cases.BEYOND);
    Cases.due("n 4", x.drop(4, 0, 1, 4), Cases.BEYOND);
    for (int n = 1; n <= 3; n++) {
      Cases.due("too great for " + n, x.drop(4, 0, 1 << (8 * n), n), Cases.BEYOND);
      Cases.due("the greatest of " + n, x.drop(4, 0, (1 << (8 * n)) - 1, n), Cases.NONE);
      Cases.due("state 3", x.drop(4, 3, 0, n), Cases.NONE);
    }
    Cases.due("entries", x.size(4, 2), 3);
    Cases.due("there", x.drop(4, 0, 1, 1), 0);
  }

  private static void dropNone() {
    CountedExchange x = Setups.with(Cases.TABLE);
    Cases.due("an empty page", x.drop(0, 0, 1, 1), Cases.NONE);
    x.entry(0, 0, 0x0102, 2, 'a');
    x.shift(0, 1, 9, 0, true);
    Cases.due("its first byte", x.drop(0, 0, 1, 1), Cases.NONE);
    Cases.due("its last byte", x.drop(0, 0, 2, 1), Cases.NONE);
    Cases.due("longer", x.drop(0, 0, 0x0102, 3), Cases.NONE);
    Cases.due("of another state", x.drop(0, 1, 0x0102, 2), Cases.NONE);
    Cases.due("a shift of another state", x.drop(0, 0, 9, 1), Cases.NONE);
    Cases.due("a shift is of one byte", x.drop(0, 1, 9, 2), Cases.NONE);
    Cases.due("a shift is of one byte", x.drop(0, 1, 9, 3), Cases.NONE);
    Cases.due("entries", x.size(0, 2), 1);
    Cases.due("shifts", x.size(0, 3), 1);
  }

  // ---- promise 7: close

  private static void closes() {
    CountedExchange x = Setups.with(Cases.TABLE, Cases.TABLE);
    Cases.due("an empty table", x.close(0), 0);
    Cases.due("closed", x.size(0, 1), 1);
    Cases.due("the other is open", x.size(1, 1), 0);
    for (int i = 0; i < 100; i++) {
      x.entry(1, i % 4, i, 1, i);
    }
    for (int i = 0; i < 10; i++) {
      x.shift(1, i % 4, 200 + i, (i + 1) % 4, true);
    }
    Cases.due("a full table", x.close(1), 0);
    Cases.due("nothing is told", x.told(1), 0);
  }

  private static void closeBeyond() {
    CountedExchange x = new CountedExchange();
    Cases.due("no pages", x.close(0), Cases.BEYOND);
    x.page(Cases.TABLE);
    for (int odd : Cases.ODD) {
      Cases.due("page " + odd, x.close(odd), Cases.BEYOND);
    }
    Cases.due("page 1", x.close(1), Cases.BEYOND);
    Cases.due("page 0", x.close(0), 0);
  }

  private static void closeKind() {
    CountedExchange x = Setups.with(Cases.HIGH, Cases.LOW, Cases.FEW);
    for (int p = 0; p < 3; p++) {
      Cases.due("page " + p, x.close(p), Cases.KIND);
    }
  }

  private static void closeClosed() {
    CountedExchange x = Setups.small();
    Cases.due("again", x.close(0), Cases.CLOSED);
    x.send(0);
    x.fill(2);
    x.receive();
    Cases.due("one that was received", x.close(1), Cases.CLOSED);
    for (int answer : changes(x, 0)) {
      Cases.due("a change", answer, Cases.CLOSED);
    }
  }

  private static void closeFirstRule() {
    CountedExchange x = Setups.with(Cases.TABLE);
    x.entry(0, 3, 9, 1, 'z');
    Setups.dueBad(x, 0, 4, 0, 0);
    x.shift(0, 0, 1, 2, true);
    Setups.dueBad(x, 0, 3, 2, 0);
    x.entry(0, 0, 5, 1, -1 - 'y');
    Setups.dueBad(x, 0, 2, 'y', 0);
    x.entry(0, 3, 0x0909, 2, 'x');
    Setups.dueBad(x, 0, 1, 0, 2);
    x.drop(0, 3, 0x0909, 2);
    Setups.dueBad(x, 0, 2, 'y', 0);
    x.drop(0, 0, 5, 1);
    Setups.dueBad(x, 0, 3, 2, 0);
    x.shift(0, 2, 1, 0, true);
    Setups.dueBad(x, 0, 4, 0, 0);
    x.shift(0, 2, 2, 3, false);
    Cases.due("close", x.close(0), 0);
    Cases.due("told(1) stays", x.told(1), 4);
    x.page(Cases.TABLE);
    Cases.due("close", x.close(1), 0);
    Cases.due("told(1) stays", x.told(1), 4);
  }

  private static void closeRule1() {
    CountedExchange x = Setups.with(Cases.TABLE);
    x.entry(0, 0, 8, 1, 'a');
    x.entry(0, 0, 0x0102, 2, 'b');
    x.entry(0, 1, 0x01, 1, 'c');
    x.entry(0, 0, 0x010203, 3, 'd');
    x.entry(0, 0, 0x010204, 3, 'e');
    Setups.dueBad(x, 0, 1, 1, 3);
    x.shift(0, 0, 8, 1, true);
    Setups.dueBad(x, 0, 1, 0, 100);
    x.entry(0, 0, 0x0801, 2, 'f');
    Setups.dueBad(x, 0, 1, 0, 5);
    x.drop(0, 0, 8, 1);
    Setups.dueBad(x, 0, 1, 0, 2);
    x.drop(0, 0, 0x0102, 2);
    Setups.dueBad(x, 0, 1, 3, 100);
    x.drop(0, 0, 0x0801, 2);
    x.shift(0, 0, 9, 1, true);
    x.shift(0, 1, 1, 0, true);
    x.shift(0, 0, 1, 2, true);
    Setups.dueBad(x, 0, 1, 0, 102);
    x.drop(0, 1, 1, 1);
    Setups.dueBad(x, 0, 1, 0, 103);
  }

  private static void closeRule1Last() {
    CountedExchange x = Setups.with(Cases.TABLE);
    for (int i = 0; i < 99; i++) {
      x.entry(0, 1, i, 1, i);
    }
    x.entry(0, 0, 77, 1, 200);
    for (int i = 0; i < 9; i++) {
      x.shift(0, 1, 200 + i, 0, true);
    }
    x.shift(0, 0, 77, 1, true);
    Setups.dueBad(x, 0, 1, 99, 109);
    x.drop(0, 0, 77, 1);
    x.entry(0, 1, 0x6200, 2, 201);
    Setups.dueBad(x, 0, 1, 98, 99);
  }

  private static void closeRule2() {
    CountedExchange x = Setups.with(Cases.TABLE);
    x.entry(0, 0, 1, 1, -1 - 0x10FFFF);
    Setups.dueBad(x, 0, 2, 0x10FFFF, 0);
    x.entry(0, 0, 2, 1, 'm');
    x.entry(0, 0, 3, 1, 'm');
    Setups.dueBad(x, 0, 2, 'm', 0);
    x.entry(0, 0, 4, 1, 'k');
    x.entry(0, 0, 5, 1, -1 - 'k');
    x.entry(0, 0, 6, 1, -1 - 'n');
    Setups.dueBad(x, 0, 2, 'm', 0);
    x.entry(0, 0, 7, 1, -1);
    Setups.dueBad(x, 0, 2, 0, 0);
  }

  private static void closeRule3() {
    CountedExchange x = Setups.with(Cases.TABLE);
    x.shift(0, 0, 1, 3, true);
    Setups.dueBad(x, 0, 3, 3, 0);
    x.shift(0, 3, 1, 2, true);
    Setups.dueBad(x, 0, 3, 2, 0);
    x.shift(0, 2, 1, 1, true);
    Setups.dueBad(x, 0, 3, 1, 0);
    x.shift(0, 3, 2, 0, true);
    Setups.dueBad(x, 0, 3, 1, 0);
    x.shift(0, 1, 1, 0, true);
    Cases.due("close", x.close(0), 0);
  }

  private static void closeRule4() {
    CountedExchange x = Setups.with(Cases.TABLE);
    x.entry(0, 0, 1, 1, 'a');
    x.entry(0, 1, 2, 1, -1 - 'a');
    x.entry(0, 2, 3, 1, 'b');
    x.entry(0, 1, 4, 1, 'c');
    Setups.dueBad(x, 0, 4, 2, 0);
    x.shift(0, 0, 9, 2, false);
    Setups.dueBad(x, 0, 4, 3, 0);
    x.drop(0, 0, 1, 1);
    x.entry(0, 0, 1, 1, 'a');
    Setups.dueBad(x, 0, 4, 2, 0);
    x.shift(0, 0, 8, 1, false);
    Cases.due("close", x.close(0), 0);
  }

  // ---- promise 8: size

  private static void sizes() {
    CountedExchange x = Setups.openShifting();
    int[][] want = {{0, 0, 4, 6}, {1, 1, 0, 0}, {2, 1, 0, 0}, {3, 1, 0, 0}, {0, 0, 0, 0}};
    for (int p = 1; p < 5; p++) {
      x.page(p % 4);
    }
    for (int p = 0; p < 5; p++) {
      for (int what = 0; what < 4; what++) {
        Cases.due("size(" + p + ", " + what + ")", x.size(p, what), want[p][what]);
      }
    }
    x.close(0);
    Cases.due("closed", x.size(0, 1), 1);
    Cases.due("entries", x.size(0, 2), 4);
  }

  private static void sizeBeyond() {
    CountedExchange x = new CountedExchange();
    Cases.due("no pages", x.size(0, 0), Cases.BEYOND);
    x.page(Cases.TABLE);
    x.page(Cases.FEW);
    for (int odd : Cases.ODD) {
      Cases.due("page " + odd, x.size(odd, 0), Cases.BEYOND);
      Cases.due("what " + odd, x.size(0, odd), Cases.BEYOND);
      Cases.due("what " + odd, x.size(1, odd), Cases.BEYOND);
    }
    Cases.due("page 2", x.size(2, 0), Cases.BEYOND);
    Cases.due("what 4", x.size(0, 4), Cases.BEYOND);
    Cases.due("what 4", x.size(1, 4), Cases.BEYOND);
    Cases.due("told(10)", x.told(10), 2 + 3 * Cases.ODD.length + 2);
  }

  // ---- promise 9: code

  private static void codes() {
    CountedExchange x = Setups.with(Cases.TABLE, Cases.FEW, Cases.HIGH, Cases.LOW);
    x.entry(0, 0, 0, 3, 'a');
    x.entry(0, 0, 0xFFFFFF, 3, 'b');
    x.entry(0, 0, 0x01FF, 2, 'c');
    x.entry(0, 0, 0x80, 1, -1 - 'd');
    x.entry(0, 1, 0x81, 1, 'd');
    x.shift(0, 0, 9, 1, false);
    x.close(0);
    Cases.due("zeros", x.code(0, 'a'), Setups.text(3, 0));
    Cases.due("the greatest", x.code(0, 'b'), Setups.text(3, 0xFFFFFF));
    Cases.due("two", x.code(0, 'c'), Setups.text(2, 0x01FF));
    Cases.due("the preferred one, without a shift", x.code(0, 'd'), Setups.text(1, 0x81));
    Cases.due("four bytes of FEW", x.code(1, 0x10FFFF), Setups.text(4, 0xF48FBFBFL));
    Cases.due("FEW 0", x.code(1, 0), Setups.text(1, 0));
    Cases.due("HIGH 0", x.code(2, 0), Setups.text(2, 0));
    Cases.due("four bytes of LOW", x.code(3, 0x10FFFF), Setups.text(4, 0xFFDBFFDFL));
  }

  private static void codeNoPage() {
    CountedExchange x = new CountedExchange();
    Cases.due("no pages", x.code(0, 'a'), Cases.BEYOND);
    x.page(Cases.FEW);
    for (int odd : Cases.ODD) {
      Cases.due("page " + odd, x.code(odd, 'a'), Cases.BEYOND);
    }
    Cases.due("page 1", x.code(1, 'a'), Cases.BEYOND);
    Cases.due("page 0", x.code(0, 'a'), Setups.text(1, 'a'));
  }

  private static void codeOpen() {
    CountedExchange x = Setups.openShifting();
    Cases.due("open", x.code(0, 'a'), Cases.OPEN);
    x.close(0);
    Cases.due("closed", x.code(0, 'a'), Setups.text(1, 65));
    x.derive(0);
    Cases.due("a derived one", x.code(1, 'a'), Cases.OPEN);
  }

  private static void codeNoPoint() {
    CountedExchange x = Setups.small();
    x.page(Cases.FEW);
    int[] noPoints = {-1, 0xD800, 0xDBFF, 0xDC00, 0xDFFF, 0x110000, Integer.MIN_VALUE, Integer.MAX_VALUE};
    for (int point : noPoints) {
      Cases.due("of a table: " + point, x.code(0, point), Cases.BEYOND);
      Cases.due("of FEW: " + point, x.code(1, point), Cases.BEYOND);
    }
  }

  private static void codeNone() {
    CountedExchange x = Setups.small();
    for (int point : new int[] {0, 'a' - 1, 'd', 0xD7FF, 0xE000, 0x10FFFF}) {
      Cases.due("code of " + point, x.code(0, point), Cases.NONE);
    }
    for (int point = 'a'; point <= 'c'; point++) {
      Cases.due("code of " + point, x.code(0, point), Setups.text(1, point - 'a' + 1));
    }
    x.page(Cases.TABLE);
    x.close(1);
    Cases.due("of an empty page", x.code(1, 'a'), Cases.NONE);
    Cases.due("told(10)", x.told(10), 7);
  }

  static Cases cases() {
    Cases all = new Cases();
    all.section("What it is")
        .say("An object is used for at most 512 calls after it has been made; what later calls answer is free.",
            PagesTest::the512thCall);
    all.section("Promise 1")
        .say("No pages, no fallbacks, no input, no result, no machines.", PagesTest::aNewObject,
            PagesTest::objectsAreApart);
    makingPages(all);
    changingPages(all);
    closingPages(all);
    return all;
  }

  private static void makingPages(Cases all) {
    all.section("Promise 2")
        .say("A new page of a kind: its number.", PagesTest::pageNumbers)
        .say("BEYOND: kind is not 0 to 3.", PagesTest::pageKindBeyond)
        .say("FULL: there are 10.", PagesTest::pageFull);
    all.section("Promise 3")
        .say("A new TABLE page, open, with the entries and shifts of page q: its number.", PagesTest::deriveAll,
            PagesTest::deriveEmptyAndFull)
        .say("BEYOND: no such page.", PagesTest::deriveBeyond)
        .say("KIND: it is no TABLE.", PagesTest::deriveKind)
        .say("OPEN: it is.", PagesTest::deriveOpen)
        .say("FULL.", PagesTest::deriveFull);
  }

  private static void changingPages(Cases all) {
    all.section("Promise 4")
        .say("An entry of a TABLE page: the byte text is n bytes, the lowest ones of bytes, the highest of these "
            + "first; code is a point, preferred, or (below 0) -1 less a point, not preferred.",
            PagesTest::entryBytesAndCode)
        .say("0; 1 when the state had an entry with just that byte text: it is that then, with its number.",
            PagesTest::entryThere)
        .say("BEYOND: no such page.", PagesTest::entryNoPage)
        .say("KIND.", PagesTest::entryKind)
        .say("CLOSED.", PagesTest::entryClosed)
        .say("BEYOND: state is not 0 to 3, n not 1 to 3, bytes below 0 or too great, or code tells no point.",
            PagesTest::entryBeyond)
        .say("FULL: there are 100 (and it is none that was there).", PagesTest::entryFull);
    all.section("Promise 5")
        .say("A shift: 0.", PagesTest::shiftComes)
        .say("BEYOND: no such page.", PagesTest::shiftNoPage)
        .say("KIND.", PagesTest::shiftKind)
        .say("CLOSED.", PagesTest::shiftClosed)
        .say("BEYOND: state or to is not 0 to 3, they are the same, or b is no byte.", PagesTest::shiftBeyond)
        .say("THERE: the state has a shift with that byte.", PagesTest::shiftThere)
        .say("FULL.", PagesTest::shiftFull);
    all.section("Promise 6")
        .say("The entry of the state with just that byte text is taken away, or (of one byte, without such an entry) "
            + "the shift: 0 for an entry, 1 for a shift.", PagesTest::dropEntryOrShift)
        .say("BEYOND, KIND, CLOSED, BEYOND as of entry().", PagesTest::dropAsOfEntry)
        .say("NONE.", PagesTest::dropNone);
  }

  private static void closingPages(Cases all) {
    all.section("Promise 7")
        .say("The page is closed: 0.", PagesTest::closes)
        .say("BEYOND.", PagesTest::closeBeyond)
        .say("KIND.", PagesTest::closeKind)
        .say("CLOSED.", PagesTest::closeClosed)
        .say("BAD: a rule is broken: told(1) is the first one broken then;", PagesTest::closeFirstRule)
        .say("told(2) and told(3): of rule 1 the first i and for it the first k behind it that break it (entries by "
            + "their numbers, then shifts with 100 more),", PagesTest::closeRule1, PagesTest::closeRule1Last)
        .say("of 2 the least point and 0,", PagesTest::closeRule2)
        .say("of 3 the least state and 0,", PagesTest::closeRule3)
        .say("of 4 the first entry and 0.", PagesTest::closeRule4);
    all.section("Promise 8")
        .say("Of a page, what = 0 its kind, 1 whether it is closed (1, 0), 2 entries, 3 shifts (of others than TABLE "
            + "0).", PagesTest::sizes)
        .say("BEYOND: no such page, or another what.", PagesTest::sizeBeyond);
    all.section("Promise 9")
        .say("The preferred byte text of a point: its bytes as a number, the first one highest, and n times 2 to the "
            + "32.", PagesTest::codes)
        .say("BEYOND: no such page.", PagesTest::codeNoPage)
        .say("OPEN.", PagesTest::codeOpen)
        .say("BEYOND: no point.", PagesTest::codeNoPoint)
        .say("NONE: it has none.", PagesTest::codeNone);
  }

  public static void main(String[] args) {
    cases().run();
  }
}
