/** The sentences of promises 10 to 18 (input, result, rules), each with a test of its own. */
public final class RowsTest {
  private static final int[] NO_POINTS = {-1, 0xD800, 0xDBFF, 0xDC00, 0xDFFF, 0x110000, Integer.MIN_VALUE,
      Integer.MAX_VALUE};

  private RowsTest() { }

  /** Page 0 reads byte 1 to a, byte 2 to 0x10FFFF, which has two units. */
  private static CountedExchange doubling() {
    CountedExchange x = Setups.with(Cases.TABLE);
    x.entry(0, 0, 1, 1, 'a');
    x.entry(0, 0, 2, 1, 0x10FFFF);
    Cases.due("close(0)", x.close(0), 0);
    return x;
  }

  // ---- promise 10: bytesIn

  private static void bytesComeIn() {
    CountedExchange x = Setups.with(Cases.TABLE);
    x.close(0);
    long w = 0x80FE7F0100A0B0C0L;
    int[] all = {0x80, 0xFE, 0x7F, 0x01, 0x00, 0xA0, 0xB0, 0xC0};
    for (int n = 1; n <= 8; n++) {
      x.fill(0);
      Cases.due("bytesIn " + n, x.bytesIn(w, n), n);
      Cases.due("decode", x.decode(0, Cases.KEEP), n);
      for (int i = 0; i < n; i++) {
        Cases.due("byte " + i + " of " + n, x.result(i), 0xDC00 + all[8 - n + i]);
      }
    }
    Cases.due("behind them", x.bytesIn(-1, 2), 10);
    x.decode(0, Cases.KEEP);
    Cases.due("the first stays", x.result(0), 0xDC80);
    Cases.due("the last", x.result(9), 0xDCFF);
    Cases.due("the least w", x.bytesIn(Long.MIN_VALUE, 8), 18);
    x.decode(0, Cases.KEEP);
    Cases.due("its first byte", x.result(10), 0xDC80);
    Cases.due("its second byte", x.result(11), 0xDC00);
    Cases.due("units are others", x.told(6), 0);
  }

  private static void bytesBeyond() {
    CountedExchange x = new CountedExchange();
    for (int odd : Cases.ODD) {
      Cases.due("n " + odd, x.bytesIn(1, odd), Cases.BEYOND);
    }
    Cases.due("n 0", x.bytesIn(1, 0), Cases.BEYOND);
    Cases.due("n 9", x.bytesIn(1, 9), Cases.BEYOND);
    Cases.due("none came", x.told(5), 0);
    Cases.due("n 1", x.bytesIn(1, 1), 1);
    Cases.due("n 8", x.bytesIn(1, 8), 9);
  }

  private static void bytesFull() {
    CountedExchange x = new CountedExchange();
    Setups.putBytes(x, Setups.times(992, 1));
    Cases.due("just 1000", x.bytesIn(2, 8), 1000);
    for (int n = 1; n <= 8; n++) {
      Cases.due("n " + n, x.bytesIn(3, n), Cases.FULL);
    }
    Cases.due("told(5)", x.told(5), 1000);
    Cases.due("fill(0)", x.fill(0), 1000);
    Setups.putBytes(x, Setups.times(993, 1));
    Cases.due("1001", x.bytesIn(2, 8), Cases.FULL);
    Cases.due("none of them came", x.told(5), 993);
    Cases.due("1000", x.bytesIn(2, 7), 1000);
  }

  // ---- promise 11: unitsIn

  private static void unitsComeIn() {
    CountedExchange x = Setups.with(Cases.HIGH);
    long w = 0xFFFF7FFF00018000L;
    int[] all = {0xFF, 0xFF, 0x7F, 0xFF, 0x00, 0x01, 0x80, 0x00};
    for (int n = 1; n <= 4; n++) {
      x.fill(1);
      Cases.due("unitsIn " + n, x.unitsIn(w, n), n);
      Cases.due("encode", x.encode(0, Cases.REFUSE), 2 * n);
      for (int i = 0; i < 2 * n; i++) {
        Cases.due("byte " + i + " of " + n, x.result(i), all[8 - 2 * n + i]);
      }
    }
    Cases.due("behind them", x.unitsIn(Long.MIN_VALUE, 4), 8);
    x.encode(0, Cases.REFUSE);
    Cases.due("the first stays", x.result(0), 0xFF);
    Cases.due("of the least w", x.result(8), 0x80);
    Cases.due("of the least w", x.result(9), 0);
    Cases.due("bytes are others", x.told(5), 0);
  }

  private static void unitsBeyond() {
    CountedExchange x = new CountedExchange();
    for (int odd : Cases.ODD) {
      Cases.due("n " + odd, x.unitsIn(1, odd), Cases.BEYOND);
    }
    Cases.due("n 0", x.unitsIn(1, 0), Cases.BEYOND);
    Cases.due("n 5", x.unitsIn(1, 5), Cases.BEYOND);
    Cases.due("none came", x.told(6), 0);
    Cases.due("n 1", x.unitsIn(1, 1), 1);
    Cases.due("n 4", x.unitsIn(1, 4), 5);
  }

  private static void unitsFull() {
    CountedExchange x = new CountedExchange();
    Setups.putUnits(x, Setups.times(996, 1));
    Cases.due("just 1000", x.unitsIn(2, 4), 1000);
    for (int n = 1; n <= 4; n++) {
      Cases.due("n " + n, x.unitsIn(3, n), Cases.FULL);
    }
    Cases.due("told(6)", x.told(6), 1000);
    CountedExchange y = new CountedExchange();
    Setups.putUnits(y, Setups.times(997, 1));
    Cases.due("1001", y.unitsIn(2, 4), Cases.FULL);
    Cases.due("none of them came", y.told(6), 997);
    Cases.due("1000", y.unitsIn(2, 3), 1000);
    Cases.due("the bytes have room", y.bytesIn(1, 8), 8);
  }

  // ---- promise 12: fill

  private static void fillEmpties() {
    CountedExchange x = new CountedExchange();
    Cases.due("none", x.fill(0), 0);
    Cases.due("none", x.fill(1), 0);
    Setups.putBytes(x, Setups.times(1000, 1));
    Setups.putUnits(x, 1, 2, 3);
    Cases.due("1000", x.fill(0), 1000);
    Cases.due("bytes", x.told(5), 0);
    Cases.due("the units stay", x.told(6), 3);
    Cases.due("none", x.fill(0), 0);
    Setups.putBytes(x, 1, 2);
    Cases.due("3", x.fill(1), 3);
    Cases.due("units", x.told(6), 0);
    Cases.due("the bytes stay", x.told(5), 2);
    Setups.putUnits(x, Setups.times(1000, 1));
    Cases.due("1000", x.fill(1), 1000);
    Cases.due("room again", x.unitsIn(1, 4), 4);
  }

  private static void fillFromResult() {
    CountedExchange x = Setups.small();
    Setups.putBytes(x, 1, 2, 3);
    Setups.putUnits(x, 'q', 'q', 'q', 'q', 'q');
    x.decode(0, Cases.REFUSE);
    Cases.due("to the units", x.fill(3), 3);
    Cases.due("in place of what was there", x.told(6), 3);
    Cases.due("the bytes stay", x.told(5), 3);
    Cases.due("once more", x.fill(3), 3);
    x.encode(0, Cases.REFUSE);
    Setups.dueResult(x, 1, 2, 3);
    Setups.putBytes(x, Setups.times(9, 1));
    Cases.due("to the bytes", x.fill(2), 3);
    Cases.due("in place of what was there", x.told(5), 3);
    x.decode(0, Cases.REFUSE);
    Setups.dueResult(x, 'a', 'b', 'c');
    x.fill(0);
    x.decode(0, Cases.REFUSE);
    Cases.due("an empty result", x.fill(3), 0);
    Cases.due("no units then", x.told(6), 0);
    x.encode(0, Cases.REFUSE);
    x.bytesIn(1, 1);
    Cases.due("an empty result", x.fill(2), 0);
    Cases.due("no bytes then", x.told(5), 0);
  }

  private static void fillBeyond() {
    CountedExchange x = Setups.small();
    Setups.putBytes(x, 1);
    Setups.putUnits(x, 'a');
    for (int odd : Cases.ODD) {
      Cases.due("fill(" + odd + ")", x.fill(odd), Cases.BEYOND);
    }
    Cases.due("fill(4)", x.fill(4), Cases.BEYOND);
    Cases.due("bytes", x.told(5), 1);
    Cases.due("units", x.told(6), 1);
  }

  private static void fillNone() {
    CountedExchange x = Setups.small();
    Setups.putBytes(x, 1);
    Setups.putUnits(x, 'a', 'b');
    Cases.due("no result", x.fill(2), Cases.NONE);
    Cases.due("no result", x.fill(3), Cases.NONE);
    x.decode(0, Cases.REFUSE);
    Cases.due("of units", x.fill(2), Cases.NONE);
    Cases.due("bytes", x.told(5), 1);
    x.encode(0, Cases.REFUSE);
    Cases.due("of bytes", x.fill(3), Cases.NONE);
    Cases.due("units", x.told(6), 2);
    x.fill(1);
    x.encode(0, Cases.REFUSE);
    Cases.due("of bytes, empty", x.fill(3), Cases.NONE);
    x.send(0);
    Cases.due("a sent page is bytes", x.fill(3), Cases.NONE);
    Cases.due("a sent page is bytes", x.fill(2), 25);
    x.transcode(0, Cases.DROP, 0, Cases.DROP);
    Cases.due("so is what transcode() made", x.fill(3), Cases.NONE);
  }

  private static void fillFullOfBytes() {
    CountedExchange x = Setups.wide();
    Setups.putUnits(x, Setups.joined(Setups.times(20, 'x'), Setups.times(13, 'a'), Setups.times(1, 'b')));
    Cases.due("1000", x.encode(0, Cases.FALLBACK), 1000);
    Cases.due("to the bytes", x.fill(2), 1000);
    x.unitsIn('b', 1);
    Cases.due("1001", x.encode(0, Cases.FALLBACK), 1001);
    Setups.putBytes(x, 1, 2, 3);
    Cases.due("full", x.fill(2), Cases.FULL);
    Cases.due("the bytes stay", x.told(5), 3);
    Cases.due("the result stays", x.told(7), 1001);
  }

  private static void fillFullOfUnits() {
    CountedExchange x = doubling();
    Setups.putBytes(x, Setups.times(500, 2));
    Cases.due("1000", x.decode(0, Cases.REFUSE), 1000);
    Cases.due("to the units", x.fill(3), 1000);
    x.bytesIn(1, 1);
    Cases.due("1001", x.decode(0, Cases.REFUSE), 1001);
    Cases.due("full", x.fill(3), Cases.FULL);
    Cases.due("the units stay", x.told(6), 1000);
    Cases.due("the result stays", x.told(7), 1001);
  }

  // ---- promise 13: decode

  private static void decodeAll() {
    CountedExchange x = doubling();
    Cases.due("no bytes", x.decode(0, Cases.REFUSE), 0);
    Cases.due("a result without values", x.told(8), 1);
    Setups.putBytes(x, 2, 1);
    Cases.due("two", x.decode(0, Cases.REFUSE), 3);
    Setups.dueResult(x, 0xDBFF, 0xDFFF, 'a');
    Setups.putBytes(x, Setups.times(1000, 2));
    Cases.due("1000 bytes", x.decode(0, Cases.REFUSE), 2000);
    Cases.due("the last unit", x.result(1999), 0xDFFF);
    Cases.due("behind it", x.result(2000), Cases.NONE);
    Setups.putBytes(x, Setups.times(1000, 9));
    Cases.due("1000 kept", x.decode(0, Cases.KEEP), 1000);
    Cases.due("the last unit", x.result(999), 0xDC09);
    Cases.due("the bytes stay", x.told(5), 1000);
  }

  private static void decodeNoPage() {
    CountedExchange x = new CountedExchange();
    Cases.due("no pages", x.decode(0, Cases.REFUSE), Cases.BEYOND);
    x.page(Cases.FEW);
    for (int odd : Cases.ODD) {
      Cases.due("page " + odd, x.decode(odd, Cases.REFUSE), Cases.BEYOND);
    }
    Cases.due("page 1", x.decode(1, Cases.REFUSE), Cases.BEYOND);
    Cases.due("page 0", x.decode(0, Cases.REFUSE), 0);
  }

  private static void decodeOpen() {
    CountedExchange x = Setups.openShifting();
    Cases.due("open", x.decode(0, Cases.REFUSE), Cases.OPEN);
    Cases.due("no result", x.told(8), 0);
    x.close(0);
    Cases.due("closed", x.decode(0, Cases.REFUSE), 0);
  }

  private static void decodeRule() {
    CountedExchange x = Setups.small();
    for (int odd : Cases.ODD) {
      Cases.due("rule " + odd, x.decode(0, odd), Cases.BEYOND);
    }
    Cases.due("rule 4", x.decode(0, 4), Cases.BEYOND);
    Cases.due("no result", x.told(8), 0);
    for (int rule = 0; rule <= 3; rule++) {
      Cases.due("rule " + rule, x.decode(0, rule), 0);
    }
  }

  private static void decodeMalformed() {
    CountedExchange x = Setups.small();
    Setups.putBytes(x, 9, 1);
    Cases.due("at the first place", x.decode(0, Cases.REFUSE), Cases.MALFORMED);
    Cases.due("told(0)", x.told(0), 0);
    Setups.putBytes(x, 1, 2, 9, 1, 9);
    Cases.due("the first of two", x.decode(0, Cases.REFUSE), Cases.MALFORMED);
    Cases.due("told(0)", x.told(0), 2);
    for (int rule = 1; rule <= 3; rule++) {
      Cases.due("under REFUSE alone", x.decode(0, rule), rule == Cases.DROP ? 3 : 5);
    }
    Cases.due("told(0) stays", x.told(0), 2);
    Setups.putBytes(x, Setups.joined(Setups.times(999, 1), new int[] {9}));
    Cases.due("at the last place", x.decode(0, Cases.REFUSE), Cases.MALFORMED);
    Cases.due("told(0)", x.told(0), 999);
    CountedExchange y = Setups.with(Cases.FEW);
    Setups.putBytes(y, 0xE2, 0x82, 0xAC, 0xF0, 0x9F, 0x98);
    Cases.due("the place of its first byte", y.decode(0, Cases.REFUSE), Cases.MALFORMED);
    Cases.due("told(0)", y.told(0), 3);
  }

  private static void decodeStays() {
    CountedExchange x = Setups.small();
    x.page(Cases.TABLE);
    Setups.putUnits(x, 'c', 'a');
    x.encode(0, Cases.REFUSE);
    Setups.putBytes(x, 1, 2, 2, 9);
    Cases.due("MALFORMED", x.decode(0, Cases.REFUSE), Cases.MALFORMED);
    Cases.due("OPEN", x.decode(1, Cases.REFUSE), Cases.OPEN);
    Cases.due("BEYOND", x.decode(2, Cases.REFUSE), Cases.BEYOND);
    Cases.due("BEYOND", x.decode(0, 4), Cases.BEYOND);
    Cases.due("of bytes", x.told(8), 2);
    Setups.dueResult(x, 3, 1);
  }

  // ---- promise 14: encode

  private static void encodeAll() {
    CountedExchange x = Setups.shifting();
    Cases.due("no units", x.encode(0, Cases.REFUSE), 0);
    Cases.due("a result without values", x.told(8), 2);
    Setups.putUnits(x, 'd');
    Cases.due("and the end", x.encode(0, Cases.REFUSE), 6);
    Setups.dueResult(x, 14, 16, 0x43, 0x44, 0x45, 17);
    Setups.putUnits(x, 'b');
    Cases.due("and the end", x.encode(0, Cases.REFUSE), 3);
    Setups.dueResult(x, 14, 65, 15);
    Setups.putUnits(x, 'c');
    Cases.due("no end behind a single shift", x.encode(0, Cases.REFUSE), 3);
    Setups.dueResult(x, 27, 0x41, 0x42);
    Setups.putUnits(x, Setups.times(1000, 'a'));
    Cases.due("1000 units", x.encode(0, Cases.REFUSE), 1000);
    Cases.due("the last", x.result(999), 65);
    Cases.due("the units stay", x.told(6), 1000);
  }

  private static void encodeNoPage() {
    CountedExchange x = new CountedExchange();
    Cases.due("no pages", x.encode(0, Cases.REFUSE), Cases.BEYOND);
    x.page(Cases.FEW);
    for (int odd : Cases.ODD) {
      Cases.due("page " + odd, x.encode(odd, Cases.REFUSE), Cases.BEYOND);
    }
    Cases.due("page 1", x.encode(1, Cases.REFUSE), Cases.BEYOND);
    Cases.due("page 0", x.encode(0, Cases.REFUSE), 0);
  }

  private static void encodeOpen() {
    CountedExchange x = Setups.openShifting();
    Cases.due("open", x.encode(0, Cases.REFUSE), Cases.OPEN);
    Cases.due("no result", x.told(8), 0);
    x.close(0);
    Cases.due("closed", x.encode(0, Cases.REFUSE), 0);
  }

  private static void encodeRule() {
    CountedExchange x = Setups.small();
    for (int odd : Cases.ODD) {
      Cases.due("rule " + odd, x.encode(0, odd), Cases.BEYOND);
    }
    Cases.due("rule 5", x.encode(0, 5), Cases.BEYOND);
    Cases.due("no result", x.told(8), 0);
    for (int rule = 0; rule <= 4; rule++) {
      Cases.due("rule " + rule, x.encode(0, rule), 0);
    }
  }

  private static void encodeMissing() {
    CountedExchange x = Setups.small();
    Setups.putUnits(x, 'q', 'a');
    Cases.due("at the first place", x.encode(0, Cases.REFUSE), Cases.MISSING);
    Cases.due("told(0)", x.told(0), 0);
    Setups.putUnits(x, 'a', 0xD83D, 0xDE00, 'q');
    Cases.due("a point of two units", x.encode(0, Cases.REFUSE), Cases.MISSING);
    Cases.due("its first unit", x.told(0), 1);
    Cases.due("under KEEP", x.encode(0, Cases.KEEP), Cases.MISSING);
    Cases.due("its first unit", x.told(0), 1);
    Setups.putUnits(x, 0xDC01, 0xDC02, 'a', 'q');
    Cases.due("under KEEP", x.encode(0, Cases.KEEP), Cases.MISSING);
    Cases.due("told(0)", x.told(0), 3);
    Setups.giveFallback(x, 'x', 'a', 'q');
    Setups.putUnits(x, 'a', 'b', 'x', 'q');
    Cases.due("under FALLBACK", x.encode(0, Cases.FALLBACK), Cases.MISSING);
    Cases.due("the place of the point, not of a part", x.told(0), 2);
    Cases.due("never under SIGN", x.encode(0, Cases.SIGN), 2);
    Cases.due("never under DROP", x.encode(0, Cases.DROP), 2);
    Cases.due("told(0) stays", x.told(0), 2);
    x.page(Cases.FEW);
    Setups.putUnits(x, 0xD83D, 0xDE00, 0xD83D, 0xDE00, 0xDE00);
    Cases.due("behind two points of two units", x.encode(1, Cases.REFUSE), Cases.MISSING);
    Cases.due("told(0)", x.told(0), 4);
    Setups.putUnits(x, Setups.joined(Setups.times(999, 'a'), new int[] {0xD800}));
    Cases.due("at the last place", x.encode(0, Cases.REFUSE), Cases.MISSING);
    Cases.due("told(0)", x.told(0), 999);
  }

  private static void encodeFull() {
    CountedExchange x = Setups.wide();
    Setups.putUnits(x, Setups.times(125, 'x'));
    Cases.due("just 6000", x.encode(0, Cases.FALLBACK), 6000);
    Cases.due("the first", x.result(0), 1);
    Cases.due("the last", x.result(5999), 3);
    Setups.putUnits(x, Setups.joined(new int[] {'b'}, Setups.times(125, 'x')));
    Cases.due("6001", x.encode(0, Cases.FALLBACK), Cases.FULL);
    Setups.putUnits(x, Setups.times(126, 'x'));
    Cases.due("6048", x.encode(0, Cases.FALLBACK), Cases.FULL);
    Cases.due("the result stays", x.told(7), 6000);
    Cases.due("told(0) is no place", x.told(0), 0);
    int[] most = Setups.joined(Setups.times(124, 'x'), Setups.times(15, 'a'));
    Setups.putUnits(x, Setups.joined(most, new int[] {'d'}));
    Cases.due("6000 with the end", x.encode(0, Cases.FALLBACK), 6000);
    Cases.due("the end's byte", x.result(5999), 15);
    Setups.putUnits(x, Setups.joined(most, new int[] {'b', 'd'}));
    Cases.due("6001 with the end alone", x.encode(0, Cases.FALLBACK), Cases.FULL);
    Cases.due("the result stays", x.result(5999), 15);
  }

  private static void missingOrFull() {
    CountedExchange x = Setups.wide();
    Setups.giveFallback(x, 'v', 'a', 'a', 'q');
    int[] most = Setups.times(125, 'x');
    Setups.putUnits(x, Setups.joined(most, new int[] {'q'}));
    Cases.due("missing behind 6000", x.encode(0, Cases.FALLBACK), Cases.MISSING);
    Cases.due("told(0)", x.told(0), 125);
    Setups.putUnits(x, Setups.joined(most, new int[] {'b', 'q'}));
    Cases.due("full ahead of missing", x.encode(0, Cases.FALLBACK), Cases.FULL);
    Cases.due("told(0) stays", x.told(0), 125);
    Setups.putUnits(x, Setups.joined(new int[] {'q'}, most, most));
    Cases.due("missing ahead of full", x.encode(0, Cases.FALLBACK), Cases.MISSING);
    Cases.due("told(0)", x.told(0), 0);
    Setups.putUnits(x, Setups.joined(most, new int[] {'v', 'b'}));
    Cases.due("nothing of v is written, so it is missing", x.encode(0, Cases.FALLBACK), Cases.MISSING);
    Cases.due("told(0)", x.told(0), 125);
    Setups.putUnits(x, Setups.joined(most, new int[] {0xDC41}));
    Cases.due("a lone half behind 6000", x.encode(0, Cases.FALLBACK), Cases.MISSING);
    Cases.due("told(0)", x.told(0), 125);
  }

  // ---- promise 15: transcode

  private static void transcodeAll() {
    CountedExchange x = Setups.shifting();
    x.page(Cases.FEW);
    Cases.due("no bytes", x.transcode(0, Cases.REFUSE, 1, Cases.REFUSE), 0);
    Cases.due("a result without values", x.told(8), 2);
    Setups.putUnits(x, 'q', 'q');
    Setups.putBytes(x, 'd', 'a', 'b');
    Cases.due("and the end", x.transcode(1, Cases.REFUSE, 0, Cases.REFUSE), 10);
    Setups.dueResult(x, 14, 16, 0x43, 0x44, 0x45, 17, 65, 14, 65, 15);
    Cases.due("the units stay", x.told(6), 2);
    Cases.due("the bytes stay", x.told(5), 3);
    x.fill(2);
    Cases.due("back", x.transcode(0, Cases.REFUSE, 1, Cases.REFUSE), 3);
    Setups.dueResult(x, 'd', 'a', 'b');
    Cases.due("a page to itself", x.transcode(0, Cases.REFUSE, 0, Cases.REFUSE), 10);
    Setups.putBytes(x, 'a', 0xFF, 'q');
    Cases.due("KEEP and KEEP, then DROP", x.transcode(1, Cases.KEEP, 0, Cases.DROP), 1);
    Cases.due("DROP and SIGN", x.transcode(1, Cases.DROP, 0, Cases.SIGN), 1);
    Cases.due("KEEP and KEEP", x.transcode(1, Cases.KEEP, 1, Cases.KEEP), 3);
    Setups.dueResult(x, 'a', 0xFF, 'q');
    Cases.due("SIGN", x.transcode(1, Cases.SIGN, 1, Cases.REFUSE), 5);
    Setups.dueResult(x, 'a', 0xEF, 0xBF, 0xBD, 'q');
    CountedExchange y = doubling();
    y.page(Cases.HIGH);
    Setups.putBytes(y, Setups.times(1000, 2));
    Cases.due("2000 units between", y.transcode(0, Cases.REFUSE, 1, Cases.REFUSE), 4000);
    Cases.due("the last", y.result(3999), 0xFF);
  }

  private static void transcodeNoPage() {
    CountedExchange x = Setups.with(Cases.FEW);
    for (int odd : Cases.ODD) {
      Cases.due("from " + odd, x.transcode(odd, 0, 0, 0), Cases.BEYOND);
      Cases.due("to " + odd, x.transcode(0, 0, odd, 0), Cases.BEYOND);
    }
    Cases.due("from 1", x.transcode(1, 0, 0, 0), Cases.BEYOND);
    Cases.due("to 1", x.transcode(0, 0, 1, 0), Cases.BEYOND);
    Cases.due("either", x.transcode(0, 0, 0, 0), 0);
  }

  private static void transcodeOpen() {
    CountedExchange x = Setups.with(Cases.FEW, Cases.TABLE);
    Cases.due("from", x.transcode(1, 0, 0, 0), Cases.OPEN);
    Cases.due("to", x.transcode(0, 0, 1, 0), Cases.OPEN);
    Cases.due("both", x.transcode(1, 0, 1, 0), Cases.OPEN);
    x.close(1);
    Cases.due("closed", x.transcode(1, 0, 0, 0), 0);
  }

  private static void transcodeRule() {
    CountedExchange x = Setups.with(Cases.FEW);
    for (int odd : Cases.ODD) {
      Cases.due("rule " + odd, x.transcode(0, odd, 0, 0), Cases.BEYOND);
      Cases.due("by " + odd, x.transcode(0, 0, 0, odd), Cases.BEYOND);
    }
    Cases.due("rule 4", x.transcode(0, 4, 0, 0), Cases.BEYOND);
    Cases.due("by 5", x.transcode(0, 0, 0, 5), Cases.BEYOND);
    Cases.due("rule 3, by 4", x.transcode(0, 3, 0, 4), 0);
  }

  private static void transcodeMalformed() {
    CountedExchange x = Setups.small();
    x.page(Cases.FEW);
    Setups.putUnits(x, 'a');
    x.encode(0, Cases.REFUSE);
    Setups.putBytes(x, 'q', 'q', 0xC3, 'a');
    Cases.due("malformed", x.transcode(1, Cases.REFUSE, 0, Cases.REFUSE), Cases.MALFORMED);
    Cases.due("its place among the bytes", x.told(0), 2);
    Setups.dueResult(x, 1);
    Setups.putBytes(x, 0xC3, 0xA9, 0xC3);
    Cases.due("behind two bytes of one unit", x.transcode(1, Cases.REFUSE, 1, Cases.REFUSE), Cases.MALFORMED);
    Cases.due("told(0)", x.told(0), 2);
  }

  private static void transcodeMissing() {
    CountedExchange x = Setups.small();
    x.page(Cases.FEW);
    Setups.putUnits(x, 'a');
    x.encode(0, Cases.REFUSE);
    Setups.putBytes(x, 'a', 0xFF, 'b', 0xC3, 0xA9);
    Cases.due("behind a dropped byte", x.transcode(1, Cases.DROP, 0, Cases.REFUSE), Cases.MISSING);
    Cases.due("the place among the units", x.told(0), 2);
    x.sign(0, 0x10FFFF);
    Cases.due("the sign", x.transcode(1, Cases.SIGN, 0, Cases.REFUSE), Cases.MISSING);
    Cases.due("its first unit", x.told(0), 1);
    Cases.due("a kept byte", x.transcode(1, Cases.KEEP, 0, Cases.FALLBACK), Cases.MISSING);
    Cases.due("its unit", x.told(0), 1);
    Setups.putBytes(x, 0xF0, 0x90, 0x80, 0x80, 0xFF);
    Cases.due("behind a point of two units", x.transcode(1, Cases.KEEP, 1, Cases.REFUSE), Cases.MISSING);
    Cases.due("told(0)", x.told(0), 2);
    Setups.dueResult(x, 1);
    Setups.giveFallback(x, 0x10FFFF, 'b');
    Setups.putBytes(x, Setups.joined(Setups.times(999, 0xFF), new int[] {'q'}));
    Cases.due("behind 999 points of two units", x.transcode(1, Cases.SIGN, 0, Cases.FALLBACK), Cases.MISSING);
    Cases.due("told(0)", x.told(0), 1998);
  }

  private static void transcodeFull() {
    CountedExchange x = Setups.wide();
    x.page(Cases.FEW);
    int[] most = Setups.times(125, 'x');
    Setups.putBytes(x, most);
    Cases.due("just 6000", x.transcode(1, Cases.REFUSE, 0, Cases.FALLBACK), 6000);
    x.bytesIn('b', 1);
    Cases.due("6001", x.transcode(1, Cases.REFUSE, 0, Cases.FALLBACK), Cases.FULL);
    Cases.due("the result stays", x.told(7), 6000);
    Setups.putBytes(x, Setups.joined(most, new int[] {'q'}));
    Cases.due("missing behind 6000", x.transcode(1, Cases.REFUSE, 0, Cases.FALLBACK), Cases.MISSING);
    Cases.due("told(0)", x.told(0), 125);
    Setups.putBytes(x, Setups.joined(most, new int[] {'b', 'q'}));
    Cases.due("full ahead of missing", x.transcode(1, Cases.REFUSE, 0, Cases.FALLBACK), Cases.FULL);
    Setups.putBytes(x, Setups.joined(most, new int[] {'b', 0xFF}));
    Cases.due("malformed ahead of all", x.transcode(1, Cases.REFUSE, 0, Cases.FALLBACK), Cases.MALFORMED);
    Cases.due("told(0)", x.told(0), 126);
    Setups.putBytes(x, Setups.joined(Setups.times(124, 'x'), Setups.times(15, 'a'), new int[] {'b', 'd'}));
    Cases.due("the end is too much", x.transcode(1, Cases.REFUSE, 0, Cases.FALLBACK), Cases.FULL);
  }

  // ---- promise 16: result

  private static void resultValues() {
    CountedExchange x = Setups.small();
    Setups.putBytes(x, 3, 1, 2);
    x.decode(0, Cases.REFUSE);
    Cases.due("0", x.result(0), 'c');
    Cases.due("1", x.result(1), 'a');
    Cases.due("2", x.result(2), 'b');
    Setups.putUnits(x, 'b', 'c');
    x.encode(0, Cases.REFUSE);
    Cases.due("0", x.result(0), 2);
    Cases.due("1", x.result(1), 3);
    Cases.due("the longer one is gone", x.result(2), Cases.NONE);
  }

  /** Calls that only look leave the result, the input and the machines. */
  private static void resultStays() {
    CountedExchange x = Setups.shifting();
    x.page(Cases.FEW);
    Setups.putBytes(x, 65, 9, 14, 65);
    Setups.putUnits(x, 'd', 'a');
    x.begin(0, 0, false, Cases.KEEP);
    x.feed(0, 27);
    x.feed(0, 0x41);
    x.encode(0, Cases.REFUSE);
    x.faults(0);
    x.misread(0, 1);
    x.detect();
    x.differ(0, 1, 0);
    x.lengths(0, 1);
    x.coverage(0, 0, 65535);
    x.code(0, 'a');
    x.size(0, 2);
    Cases.due("of bytes", x.told(8), 2);
    Setups.dueResult(x, 14, 16, 0x43, 0x44, 0x45, 17, 65);
    Cases.due("bytes", x.told(5), 4);
    Cases.due("units", x.told(6), 2);
    Setups.dueMachine(x, 0, 0, 0, 2, 1, 0);
    x.derive(0);
    x.entry(2, 0, 9, 1, 'z');
    x.close(2);
    x.fallback(0xD800);
    x.fill(0);
    x.fill(1);
    x.begin(1, 0, true, Cases.REFUSE);
    x.feed(1, 'b');
    x.end(1);
    Setups.dueResult(x, 14, 16, 0x43, 0x44, 0x45, 17, 65);
  }

  private static void resultNone() {
    CountedExchange x = Setups.small();
    Cases.due("no result", x.result(0), Cases.NONE);
    for (int odd : Cases.ODD) {
      Cases.due("no result", x.result(odd), Cases.NONE);
    }
    x.decode(0, Cases.REFUSE);
    Cases.due("an empty one", x.result(0), Cases.NONE);
    Setups.putBytes(x, 1);
    x.decode(0, Cases.REFUSE);
    for (int odd : Cases.ODD) {
      Cases.due("result(" + odd + ")", x.result(odd), Cases.NONE);
    }
    for (int i : new int[] {1, 2, 999, 1000, 5999, 6000, 6001}) {
      Cases.due("result(" + i + ")", x.result(i), Cases.NONE);
    }
    Cases.due("result(0)", x.result(0), 'a');
    Cases.due("told(10)", x.told(10), 2 + 2 * Cases.ODD.length + 7);
  }

  // ---- promise 17: sign

  private static void signs() {
    CountedExchange x = new CountedExchange();
    Cases.due("first", x.sign(0, 0x10FFFF), 0xFFFD);
    Cases.due("second", x.sign(1, 0), 63);
    Cases.due("first", x.sign(0, 0), 0x10FFFF);
    Cases.due("second", x.sign(1, 0xE000), 0);
    Cases.due("first", x.sign(0, 0xD7FF), 0);
    Cases.due("the same", x.sign(1, 0xE000), 0xE000);
    Cases.due("first", x.sign(0, 5), 0xD7FF);
  }

  private static void signBeyond() {
    CountedExchange x = new CountedExchange();
    for (int odd : Cases.ODD) {
      Cases.due("which " + odd, x.sign(odd, 'a'), Cases.BEYOND);
    }
    Cases.due("which 2", x.sign(2, 'a'), Cases.BEYOND);
    for (int point : NO_POINTS) {
      Cases.due("first " + point, x.sign(0, point), Cases.BEYOND);
      Cases.due("second " + point, x.sign(1, point), Cases.BEYOND);
    }
    Cases.due("first stays", x.sign(0, 'a'), 0xFFFD);
    Cases.due("second stays", x.sign(1, 'a'), 63);
  }

  // ---- promise 18: fallback

  private static void fallbackComes() {
    CountedExchange x = Setups.small();
    Cases.due("none, of one that has none", x.fallback('x'), 0);
    Cases.due("one", Setups.giveFallback(x, 'x', 'a'), 1);
    Cases.due("the units are gone", x.told(6), 0);
    Cases.due("of point 0", Setups.giveFallback(x, 0, 'b'), 2);
    Cases.due("of the last point", Setups.giveFallback(x, 0x10FFFF, 'c'), 3);
    Setups.putUnits(x, 'x', 0, 0xDBFF, 0xDFFF);
    x.encode(0, Cases.FALLBACK);
    Setups.dueResult(x, 1, 2, 3);
    Cases.due("in place of it", Setups.giveFallback(x, 'x', 'c', 'b', 'a', 'c'), 3);
    Setups.putUnits(x, 'x');
    x.encode(0, Cases.FALLBACK);
    Setups.dueResult(x, 3, 2, 1, 3);
    Cases.due("shorter in place of it", Setups.giveFallback(x, 'x', 'b'), 3);
    Setups.putUnits(x, 'x');
    x.encode(0, Cases.FALLBACK);
    Setups.dueResult(x, 2);
    x.fill(1);
    Cases.due("none", x.fallback('x'), 2);
    Cases.due("none twice", x.fallback('x'), 2);
    Setups.putUnits(x, 'x');
    Cases.due("it has none", x.encode(0, Cases.FALLBACK), Cases.MISSING);
    Setups.putUnits(x, 0, 0xDBFF, 0xDFFF);
    x.encode(0, Cases.FALLBACK);
    Setups.dueResult(x, 2, 3);
  }

  private static void fallbackBeyond() {
    CountedExchange x = new CountedExchange();
    Setups.putUnits(x, 'a');
    for (int point : NO_POINTS) {
      Cases.due("fallback(" + point + ")", x.fallback(point), Cases.BEYOND);
    }
    Cases.due("the units stay", x.told(6), 1);
    Cases.due("none came", x.told(9), 0);
    x.fill(1);
    for (int point : NO_POINTS) {
      Cases.due("without units: " + point, x.fallback(point), Cases.BEYOND);
    }
  }

  private static void fallbackBad() {
    CountedExchange x = new CountedExchange();
    int[][] bad = {{'a', 'b', 'c', 'd', 'e'}, {0xD800}, {0xDC00}, {'a', 0xD800}, {0xD800, 'a'}, {0xDC00, 0xD800},
        {'a', 'b', 'c', 0xDFFF}, {0xD800, 0xDC00, 0xD800, 0xDC00, 0xD800, 0xDC00, 0xD800, 0xDC00, 'a'},
        {0xD800, 0xDC00, 0xD800, 0xDC00, 0xD800, 0xDC00, 0xD800, 0xDC00, 0xD800}, {'a', 'b', 'c', 'd', 0xD800}};
    for (int[] row : bad) {
      Cases.due("bad", Setups.giveFallback(x, 'x', row), Cases.BAD);
      Cases.due("the units stay", x.told(6), row.length);
    }
    Cases.due("none came", x.told(9), 0);
    Cases.due("1000 units", Setups.giveFallback(x, 'x', Setups.times(1000, 'a')), Cases.BAD);
    Cases.due("four", Setups.giveFallback(x, 'x', 'a', 'b', 'c', 'd'), 1);
    Cases.due("four of two units", Setups.giveFallback(x, 'y', bad[7][0], bad[7][1], bad[7][2], bad[7][3], bad[7][4],
        bad[7][5], bad[7][6], bad[7][7]), 2);
    Cases.due("three of two units and one", Setups.giveFallback(x, 'z', bad[7][0], bad[7][1], bad[7][2], bad[7][3],
        bad[7][4], bad[7][5], 'a'), 3);
  }

  private static void fallbackFull() {
    CountedExchange x = new CountedExchange();
    for (int i = 0; i < 39; i++) {
      Setups.giveFallback(x, 1000 + i, 'a');
    }
    Cases.due("the 40th", Setups.giveFallback(x, 1039, 'a'), 40);
    Cases.due("the 41st", Setups.giveFallback(x, 1040, 'a'), Cases.FULL);
    Cases.due("the units stay", x.told(6), 1);
    Cases.due("the first has one", Setups.giveFallback(x, 1000, 'b'), 40);
    Cases.due("the last has one", Setups.giveFallback(x, 1039, 'b'), 40);
    x.fill(1);
    Cases.due("there are no units", x.fallback(1040), 40);
    Cases.due("one goes", x.fallback(1020), 39);
    Cases.due("one comes", Setups.giveFallback(x, 1040, 'a'), 40);
    Cases.due("full again", Setups.giveFallback(x, 1020, 'a'), Cases.FULL);
    x.page(Cases.TABLE);
    x.entry(0, 0, 1, 1, 'a');
    x.entry(0, 0, 2, 1, 'b');
    x.close(0);
    Setups.putUnits(x, 1000, 1001, 1039, 1040);
    x.encode(0, Cases.FALLBACK);
    Setups.dueResult(x, 2, 1, 2, 1);
  }

  private static void fallbackLoop() {
    CountedExchange x = new CountedExchange();
    Cases.due("of itself", Setups.giveFallback(x, 'x', 'x'), Cases.LOOP);
    Cases.due("none came", x.told(9), 0);
    for (int i = 0; i < 39; i++) {
      Cases.due("a chain", Setups.giveFallback(x, 1000 + i, 1001 + i), i + 1);
    }
    Cases.due("of 40", Setups.giveFallback(x, 1039, 1000), Cases.LOOP);
    Cases.due("of 40, as the last part", Setups.giveFallback(x, 1039, 'a', 'b', 'c', 1000), Cases.LOOP);
    Cases.due("of two at the chain's end", Setups.giveFallback(x, 1039, 1038), Cases.LOOP);
    Cases.due("the units stay", x.told(6), 1);
    Cases.due("no loop", Setups.giveFallback(x, 1039, 999), 40);
    Cases.due("in place of one", Setups.giveFallback(x, 1020, 1000), Cases.LOOP);
    x.fill(1);
    Cases.due("the chain is cut", x.fallback(1010), 39);
    Cases.due("no loop now", Setups.giveFallback(x, 1020, 1000), 39);
    Cases.due("the new way loops", Setups.giveFallback(x, 1010, 1011), Cases.LOOP);
  }

  private static void fallbackLong() {
    CountedExchange x = new CountedExchange();
    Setups.giveFallback(x, 'd', 'a', 'a', 'a', 'a');
    Cases.due("16", Setups.giveFallback(x, 'e', 'd', 'd', 'd', 'd'), 2);
    Cases.due("16 by one more", Setups.giveFallback(x, 'f', 'e'), 3);
    Cases.due("17", Setups.giveFallback(x, 'g', 'f', 'a'), Cases.LONG);
    Cases.due("64", Setups.giveFallback(x, 'g', 'f', 'f', 'f', 'f'), Cases.LONG);
    Cases.due("the units stay", x.told(6), 4);
    Cases.due("others would be longer", Setups.giveFallback(x, 'a', 'b', 'b'), Cases.LONG);
    Cases.due("of the same length", Setups.giveFallback(x, 'a', 'b'), 4);
    Cases.due("shorter", Setups.giveFallback(x, 'd', 'a', 'a', 'a'), 4);
    Cases.due("12 and 4", Setups.giveFallback(x, 'g', 'f', 'a', 'a', 'd'), Cases.LONG);
    Cases.due("12 and 3", Setups.giveFallback(x, 'g', 'f', 'a', 'a', 'a'), 5);
    Cases.due("16", Setups.giveFallback(x, 'h', 'g', 'a'), 6);
    Cases.due("20 for h", Setups.giveFallback(x, 'd', 'a', 'a', 'a', 'a'), Cases.LONG);
    Cases.due("told(9)", x.told(9), 6);
    CountedExchange y = new CountedExchange();
    Setups.giveFallback(y, 'e', 'x', 'x', 'x', 'x');
    Setups.giveFallback(y, 'w', 'a', 'a');
    Cases.due("16 for e", Setups.giveFallback(y, 'x', 'a', 'a', 'a', 'a'), 3);
    Cases.due("20 for e alone, which came first", Setups.giveFallback(y, 'x', 'w', 'a', 'a', 'a'), Cases.LONG);
    Cases.due("16 for e", Setups.giveFallback(y, 'x', 'w', 'a', 'a'), 3);
    Cases.due("the same once more", Setups.giveFallback(y, 'e', 'x', 'x', 'x', 'x'), 3);
    Cases.due("20 for e by w", Setups.giveFallback(y, 'w', 'a', 'a', 'a'), Cases.LONG);
  }

  private static void fallbackUnitsStay() {
    CountedExchange x = new CountedExchange();
    Setups.giveFallback(x, 'x', 'y', 'y', 'y', 'y');
    Setups.giveFallback(x, 'w', 'x', 'x', 'x', 'x');
    int[][] rows = {{Cases.BEYOND, 0xD800, 'a'}, {Cases.BAD, 'z', 0xD800}, {Cases.LOOP, 'y', 'x'},
        {Cases.LONG, 'z', 'w', 'a'}};
    for (int[] row : rows) {
      int[] units = java.util.Arrays.copyOfRange(row, 2, row.length);
      Cases.due("finding", Setups.giveFallback(x, row[1], units), row[0]);
      Cases.due("the units stay", x.told(6), units.length);
      x.page(Cases.FEW);
      Cases.due("as they were", x.encode(0, Cases.SIGN), units.length);
      Cases.due("as they were", x.result(0), units[0] == 0xD800 ? 63 : units[0]);
    }
    Cases.due("told(9)", x.told(9), 2);
  }

  static Cases cases() {
    Cases all = new Cases();
    input(all);
    reading(all);
    writing(all);
    rules(all);
    return all;
  }

  private static void input(Cases all) {
    all.section("Promise 10")
        .say("The n lowest bytes of w, the highest first, come to the bytes: how many there are.",
            RowsTest::bytesComeIn)
        .say("BEYOND: n is not 1 to 8.", RowsTest::bytesBeyond)
        .say("FULL: there would be more than 1000.", RowsTest::bytesFull);
    all.section("Promise 11")
        .say("The n lowest units (of 16 bits) of w likewise to the units.", RowsTest::unitsComeIn)
        .say("BEYOND: n is not 1 to 4.", RowsTest::unitsBeyond)
        .say("FULL.", RowsTest::unitsFull);
    all.section("Promise 12")
        .say("The row of bytes (what = 0) or units (1) is empty: how many there were.", RowsTest::fillEmpties)
        .say("The result comes to the bytes (2) or units (3), in place of what was there: how many.",
            RowsTest::fillFromResult)
        .say("BEYOND: another what.", RowsTest::fillBeyond)
        .say("NONE (of 2 and 3): there is no result, or it is of units (bytes).", RowsTest::fillNone)
        .say("FULL (of these): it has more than 1000.", RowsTest::fillFullOfBytes, RowsTest::fillFullOfUnits);
  }

  private static void reading(Cases all) {
    all.section("Promise 13")
        .say("All bytes are read: how many units, which are the result.", RowsTest::decodeAll)
        .say("BEYOND: no such page.", RowsTest::decodeNoPage)
        .say("OPEN.", RowsTest::decodeOpen)
        .say("BEYOND: rule is not 0 to 3.", RowsTest::decodeRule)
        .say("MALFORMED (under REFUSE): told(0) is its place then.", RowsTest::decodeMalformed)
        .say("(The result stays with a finding.)", RowsTest::decodeStays);
  }

  private static void writing(Cases all) {
    all.section("Promise 14")
        .say("All units are written, and the end: how many bytes, which are the result.", RowsTest::encodeAll)
        .say("BEYOND: no such page.", RowsTest::encodeNoPage)
        .say("OPEN.", RowsTest::encodeOpen)
        .say("BEYOND: rule is not 0 to 4.", RowsTest::encodeRule)
        .say("MISSING: told(0) is the place of its (first) unit then.", RowsTest::encodeMissing)
        .say("FULL: there would be more than 6000.", RowsTest::encodeFull)
        .say("(Of MISSING and FULL what comes first, byte by byte.)", RowsTest::missingOrFull);
    all.section("Promise 15")
        .say("All bytes are read by p with a rule, and what comes of them is written by q with a rule, and the end: "
            + "how many bytes, which are the result.", RowsTest::transcodeAll)
        .say("BEYOND: no such page (either).", RowsTest::transcodeNoPage)
        .say("OPEN: one is.", RowsTest::transcodeOpen)
        .say("BEYOND: a rule.", RowsTest::transcodeRule)
        .say("MALFORMED as of decode().", RowsTest::transcodeMalformed)
        .say("MISSING: told(0) is the place among the units that were read.", RowsTest::transcodeMissing)
        .say("FULL as of encode().", RowsTest::transcodeFull);
    all.section("Promise 16")
        .say("Value i of the result.", RowsTest::resultValues, RowsTest::resultStays)
        .say("NONE.", RowsTest::resultNone);
  }

  private static void rules(Cases all) {
    all.section("Promise 17")
        .say("A sign (0 the first, 1 the second) is a point then: what it was.", RowsTest::signs)
        .say("BEYOND: which, or no point.", RowsTest::signBeyond);
    all.section("Promise 18")
        .say("The units (they are gone then) are the fallback of a point, in place of one that it had; none when there "
            + "are none: how many points have one.", RowsTest::fallbackComes)
        .say("BEYOND: no point.", RowsTest::fallbackBeyond)
        .say("BAD: they are no row of at most four points.", RowsTest::fallbackBad)
        .say("FULL: 40 have one, and this one has none (and there are units).", RowsTest::fallbackFull)
        .say("LOOP: some whole text would have its own point within what comes of it.", RowsTest::fallbackLoop)
        .say("LONG: one would have more than 16.", RowsTest::fallbackLong)
        .say("(The units stay with a finding.)", RowsTest::fallbackUnitsStay);
  }

  public static void main(String[] args) {
    cases().run();
  }
}
