import java.util.Arrays;

/** The sentences of promises 24 to 32 (pages beside one another, as bytes), each with a test of its own. */
public final class BesideTest {
  private BesideTest() { }

  // ---- promise 24: coverage

  private static void coverageCounts() {
    CountedExchange x = Setups.with(Cases.TABLE, Cases.HIGH, Cases.LOW, Cases.FEW);
    x.entry(0, 0, 1, 1, 0);
    x.entry(0, 0, 2, 1, 'a');
    x.entry(0, 0, 3, 1, -1 - 'a');
    x.entry(0, 1, 4, 1, -1 - 'a');
    x.entry(0, 0, 5, 1, 0x10FFFF);
    x.close(0);
    int[][] rows = {{0, 65535, 2}, {0, 0, 1}, {1, 'a' - 1, 0}, {'a', 'a', 1}, {1, 'a', 1}, {'a' + 1, 65535, 0},
        {0x10FFFF, 0x10FFFF, 1}, {0x100000, 0x10FFFF, 1}, {0x100000, 0x10FFFE, 0}, {0, 'a', 2}};
    for (int[] row : rows) {
      Cases.due("of a table from " + row[0] + " to " + row[1], x.coverage(0, row[0], row[1]), row[2]);
    }
    int[][] halves = {{0, 65535, 63488}, {0xD7FF, 0xE000, 2}, {0xD800, 0xDFFF, 0}, {0xDFFF, 0xE000, 1},
        {0xD7FF, 0xD800, 1}, {0xD900, 0xD900, 0}, {0xD000, 0xDBFF, 0x800}, {0x10FFFF, 0x10FFFF, 1}, {0, 0, 1},
        {0x10000, 0x1FFFF, 65536}, {0xE000, 0x1DFFF, 65536}, {0xDFFF, 0x1DFFE, 65535}};
    for (int p = 1; p < 4; p++) {
      for (int[] row : halves) {
        Cases.due("of a form from " + row[0] + " to " + row[1], x.coverage(p, row[0], row[1]), row[2]);
      }
    }
    x.page(Cases.TABLE);
    x.close(4);
    Cases.due("of an empty table", x.coverage(4, 0, 65535), 0);
  }

  private static void coverageNoPage() {
    CountedExchange x = Setups.with(Cases.FEW);
    for (int odd : Cases.ODD) {
      Cases.due("page " + odd, x.coverage(odd, 0, 1), Cases.BEYOND);
    }
    Cases.due("page 1", x.coverage(1, 0, 1), Cases.BEYOND);
    Cases.due("page 0", x.coverage(0, 0, 1), 2);
  }

  private static void coverageOpen() {
    CountedExchange x = Setups.openShifting();
    Cases.due("open", x.coverage(0, 0, 255), Cases.OPEN);
    x.close(0);
    Cases.due("closed", x.coverage(0, 0, 255), 4);
  }

  private static void coverageBeyond() {
    CountedExchange x = Setups.small();
    x.page(Cases.FEW);
    int[][] rows = {{-1, 0}, {-1, -1}, {0, -1}, {0x110000, 0x110000}, {0x10FFFF, 0x110000}, {1, 0},
        {0x10FFFF, 0x10FFFE}, {0, 65536}, {1, 65537}, {0, 0x10FFFF}, {0x100000 - 1, 0x10FFFF},
        {Integer.MIN_VALUE, Integer.MAX_VALUE}, {Integer.MAX_VALUE, Integer.MIN_VALUE}, {0, Integer.MAX_VALUE},
        {Integer.MIN_VALUE, 0}, {Integer.MIN_VALUE, Integer.MIN_VALUE}, {Integer.MAX_VALUE, Integer.MAX_VALUE}};
    for (int[] row : rows) {
      for (int p = 0; p < 2; p++) {
        Cases.due("from " + row[0] + " to " + row[1], x.coverage(p, row[0], row[1]), Cases.BEYOND);
      }
    }
    Cases.due("65535 above it", x.coverage(1, 0x100000, 0x10FFFF), 65536);
    Cases.due("itself", x.coverage(0, 0x10FFFF, 0x10FFFF), 0);
  }

  // ---- promise 25: differ

  private static void differOnlyOne() {
    CountedExchange x = Setups.small();
    x.derive(0);
    x.entry(1, 0, 9, 1, 5000);
    x.close(1);
    Cases.due("one on and below 4096 more", x.differ(0, 1, 905), 5000);
    Cases.due("the other way", x.differ(1, 0, 905), 5000);
    Cases.due("not at 4096 more", x.differ(0, 1, 904), Cases.NONE);
    Cases.due("itself", x.differ(0, 1, 5000), 5000);
    Cases.due("behind it", x.differ(0, 1, 5001), Cases.NONE);
    x.page(Cases.FEW);
    Cases.due("a table and FEW", x.differ(0, 2, 0), 0);
    Cases.due("from a half on", x.differ(0, 2, 0xD800), 0xE000);
    Cases.due("from the last half on", x.differ(2, 0, 0xDFFF), 0xE000);
    Cases.due("the last point", x.differ(0, 2, 0x10FFFF), 0x10FFFF);
    x.page(Cases.TABLE);
    x.close(3);
    Cases.due("an empty table and another", x.differ(3, 0, 0), 'a');
  }

  private static void differOtherBytes() {
    CountedExchange x = Setups.with(Cases.FEW, Cases.HIGH, Cases.LOW);
    Cases.due("FEW and HIGH", x.differ(0, 1, 0), 0);
    Cases.due("HIGH and LOW write 0 alike", x.differ(1, 2, 0), 1);
    Cases.due("and 0x0101", x.differ(1, 2, 0x0101), 0x0102);
    Cases.due("from a half on", x.differ(1, 2, 0xD800), 0xE000);
    Cases.due("the last point", x.differ(1, 2, 0x10FFFF), 0x10FFFF);
    Cases.due("0xFFFF alike, then 0x10000", x.differ(1, 2, 0xFFFF), 0x10000);
    x.page(Cases.TABLE);
    for (int i = 0; i < 100; i++) {
      x.entry(3, 0, i, 1, i);
    }
    x.close(3);
    Cases.due("FEW has 100, too", x.differ(0, 3, 0), 100);
  }

  /** d is written alike but for its end; b by another shift; c by a shift of another kind. */
  private static void differAlone() {
    CountedExchange x = Setups.shifting();
    x.derive(0);
    x.drop(1, 3, 17, 1);
    x.shift(1, 3, 18, 0, true);
    x.entry(1, 0, 98, 1, -1 - 'a');
    x.close(1);
    Cases.due("by the end", x.differ(0, 1, 0), 'd');
    x.derive(0);
    x.drop(2, 0, 14, 1);
    x.shift(2, 0, 13, 1, true);
    x.close(2);
    Cases.due("by a shift", x.differ(0, 2, 0), 'b');
    x.derive(0);
    x.drop(3, 1, 28, 1);
    x.shift(3, 1, 29, 2, false);
    x.close(3);
    Cases.due("a shift of state 1 is not used from state 0", x.differ(0, 3, 0), Cases.NONE);
    x.derive(0);
    x.drop(4, 0, 27, 1);
    x.shift(4, 0, 27, 2, true);
    x.shift(4, 2, 99, 0, true);
    x.close(4);
    Cases.due("sticky, so it has an end", x.differ(0, 4, 0), 'c');
  }

  private static void differNone() {
    CountedExchange x = Setups.small();
    x.send(0);
    x.fill(2);
    x.receive();
    Cases.due("itself", x.differ(0, 0, 0), Cases.NONE);
    Cases.due("the same once more", x.differ(0, 1, 0), Cases.NONE);
    Cases.due("from the last point", x.differ(0, 1, 0x10FFFF), Cases.NONE);
    x.page(Cases.HIGH);
    x.page(Cases.HIGH);
    Cases.due("two of a kind", x.differ(2, 3, 0), Cases.NONE);
    Cases.due("two of a kind", x.differ(2, 3, 0x10FFFF), Cases.NONE);
    x.page(Cases.TABLE);
    x.page(Cases.TABLE);
    x.close(4);
    x.close(5);
    Cases.due("two empty ones", x.differ(4, 5, 0), Cases.NONE);
    Cases.due("told(10)", x.told(10), 6);
    Cases.due("told(0)", x.told(0), 0);
  }

  private static void differNoPage() {
    CountedExchange x = Setups.with(Cases.FEW);
    for (int odd : Cases.ODD) {
      Cases.due("one is " + odd, x.differ(odd, 0, 0), Cases.BEYOND);
      Cases.due("the other is " + odd, x.differ(0, odd, 0), Cases.BEYOND);
    }
    Cases.due("one is 1", x.differ(1, 0, 0), Cases.BEYOND);
    Cases.due("the other is 1", x.differ(0, 1, 0), Cases.BEYOND);
    Cases.due("both are 1", x.differ(1, 1, 0), Cases.BEYOND);
  }

  private static void differOpen() {
    CountedExchange x = Setups.small();
    x.derive(0);
    Cases.due("one", x.differ(0, 1, 0), Cases.OPEN);
    Cases.due("the other", x.differ(1, 0, 0), Cases.OPEN);
    Cases.due("both", x.differ(1, 1, 0), Cases.OPEN);
    x.close(1);
    Cases.due("none", x.differ(0, 1, 0), Cases.NONE);
  }

  private static void differBeyond() {
    CountedExchange x = Setups.with(Cases.FEW, Cases.HIGH);
    for (int odd : Cases.ODD) {
      Cases.due("from " + odd, x.differ(0, 1, odd), Cases.BEYOND);
      Cases.due("from " + odd, x.differ(0, 0, odd), Cases.BEYOND);
    }
    Cases.due("from 0x110000", x.differ(0, 1, 0x110000), Cases.BEYOND);
    Cases.due("from 0x110000", x.differ(0, 0, 0x110000), Cases.BEYOND);
    Cases.due("from 0x10FFFF", x.differ(0, 1, 0x10FFFF), 0x10FFFF);
    Cases.due("from 0", x.differ(0, 1, 0), 0);
    Cases.due("from a half", x.differ(0, 1, 0xDFFF), 0xE000);
  }

  // ---- promise 26: misread

  private static void misreads() {
    CountedExchange x = Setups.small();
    x.page(Cases.FEW);
    Cases.due("no bytes", x.misread(0, 1), 0);
    Setups.putBytes(x, 1, 0xC3, 0xA9, 3);
    Cases.due("a, 0xDCC3, 0xDCA9, c and 1, 0xE9, 3", x.misread(0, 1), 4);
    Cases.due("the other way", x.misread(1, 0), 4);
    Cases.due("the same page", x.misread(0, 0), 0);
    Setups.putBytes(x, 0xFF, 0x80, 0xC0);
    Cases.due("both keep the same", x.misread(0, 1), 0);
    Cases.due("told(0)", x.told(0), 0);
    Cases.due("no result", x.told(8), 0);
    CountedExchange y = Setups.with(Cases.TABLE, Cases.TABLE);
    y.close(1);
    y.entry(0, 0, 1, 1, 0x10FFFF);
    y.close(0);
    Setups.putBytes(y, Setups.times(1000, 1));
    Cases.due("2000 units and 1000", y.misread(0, 1), 2000);
    Cases.due("the other way", y.misread(1, 0), 2000);
  }

  private static void misreadBeyond() {
    CountedExchange x = Setups.with(Cases.FEW);
    for (int odd : Cases.ODD) {
      Cases.due("one is " + odd, x.misread(odd, 0), Cases.BEYOND);
      Cases.due("the other is " + odd, x.misread(0, odd), Cases.BEYOND);
    }
    Cases.due("one is 1", x.misread(1, 0), Cases.BEYOND);
    Cases.due("the other is 1", x.misread(0, 1), Cases.BEYOND);
    Cases.due("both", x.misread(0, 0), 0);
  }

  private static void misreadOpen() {
    CountedExchange x = Setups.small();
    x.derive(0);
    Cases.due("one", x.misread(0, 1), Cases.OPEN);
    Cases.due("the other", x.misread(1, 0), Cases.OPEN);
    x.close(1);
    Cases.due("none", x.misread(1, 0), 0);
  }

  // ---- promise 27: faults

  private static void countsFaults() {
    CountedExchange x = Setups.shifting();
    Cases.due("no bytes", x.faults(0), 0);
    Setups.putBytes(x, 9, 65, 27, 9, 65, 27, 0x41);
    Cases.due("9, 9 and 0x41", x.faults(0), 3);
    Setups.putBytes(x, 14, 16, 0x43, 0x44);
    Cases.due("the bytes end within one", x.faults(0), 2);
    Setups.putBytes(x, 27);
    Cases.due("pending at the end", x.faults(0), 0);
    Setups.putBytes(x, Setups.times(1000, 9));
    Cases.due("all 1000", x.faults(0), 1000);
    Cases.due("told(0)", x.told(0), 0);
    Cases.due("no result", x.told(8), 0);
    Cases.due("the bytes stay", x.told(5), 1000);
  }

  private static void faultsBeyond() {
    CountedExchange x = Setups.with(Cases.FEW);
    for (int odd : Cases.ODD) {
      Cases.due("page " + odd, x.faults(odd), Cases.BEYOND);
    }
    Cases.due("page 1", x.faults(1), Cases.BEYOND);
    Cases.due("page 0", x.faults(0), 0);
  }

  private static void faultsOpen() {
    CountedExchange x = Setups.openShifting();
    Cases.due("open", x.faults(0), Cases.OPEN);
    x.close(0);
    Cases.due("closed", x.faults(0), 0);
  }

  // ---- promise 28: detect

  private static void detects() {
    CountedExchange x = Setups.with(Cases.TABLE, Cases.HIGH, Cases.LOW, Cases.FEW, Cases.FEW);
    Cases.due("no bytes: the lowest closed one", x.detect(), 1);
    Setups.putBytes(x, 0xC3, 0xA9, 'a');
    Cases.due("no faults: the lower FEW", x.detect(), 3);
    Setups.putBytes(x, 0xDC, 0x41, 0xFF, 0xFF);
    Cases.due("no faults: LOW", x.detect(), 2);
    Setups.putBytes(x, 0xFF, 0xFF);
    Cases.due("no faults: HIGH is lower than LOW", x.detect(), 1);
    x.close(0);
    x.fill(0);
    Cases.due("no bytes: the table", x.detect(), 0);
    Setups.putBytes(x, 0xFF);
    Cases.due("one fault for each: the table", x.detect(), 0);
    Cases.due("told(0)", x.told(0), 0);
    CountedExchange y = Setups.small();
    Setups.putBytes(y, Setups.times(1000, 9));
    Cases.due("1000 faults", y.detect(), 0);
    y.page(Cases.FEW);
    Cases.due("no faults", y.detect(), 1);
    CountedExchange z = new CountedExchange();
    for (int p = 0; p < 9; p++) {
      z.page(Cases.TABLE);
      z.close(p);
    }
    z.page(Cases.FEW);
    Setups.putBytes(z, 'a');
    Cases.due("the last of ten", z.detect(), 9);
  }

  private static void detectNone() {
    CountedExchange x = new CountedExchange();
    Cases.due("no pages", x.detect(), Cases.NONE);
    x.page(Cases.TABLE);
    x.page(Cases.TABLE);
    Cases.due("open ones alone", x.detect(), Cases.NONE);
    Cases.due("told(10)", x.told(10), 2);
    x.close(1);
    Cases.due("one is closed", x.detect(), 1);
  }

  // ---- promise 29: lengths

  private static void lengthsOfAll() {
    CountedExchange x = Setups.shifting();
    Cases.due("no units, from 0", x.lengths(0, 0), 0);
    Cases.due("no units, from 1 or 3", x.lengths(0, 1), 1);
    Setups.putUnits(x, 'd');
    Cases.due("from 3", x.lengths(0, 0), 4);
    Cases.due("from 0", x.lengths(0, 1), 6);
    Setups.putUnits(x, 'a');
    Cases.due("from 0", x.lengths(0, 0), 1);
    Cases.due("from 1 or 3", x.lengths(0, 1), 2);
    Setups.putUnits(x, 'c');
    Cases.due("from 0", x.lengths(0, 0), 3);
    Cases.due("from 1, with the end; from 3 by 0", x.lengths(0, 1), 4);
    Cases.due("no result", x.told(8), 0);
    x.page(Cases.FEW);
    Setups.putUnits(x, 'a', 0xD83D, 0xDE00);
    Cases.due("FEW", x.lengths(1, 0), 5);
    Cases.due("FEW", x.lengths(1, 1), 5);
    CountedExchange y = Setups.with(Cases.HIGH);
    Setups.putUnits(y, Setups.times(1000, 'a'));
    Cases.due("2000", y.lengths(0, 0), 2000);
  }

  /** Pages 0 to 2 reach state 0 and one more, each another one, and have a there. */
  private static void lengthsOfEachState() {
    CountedExchange x = new CountedExchange();
    Setups.putUnits(x, 'a');
    for (int state = 1; state < 4; state++) {
      int p = x.page(Cases.TABLE);
      x.shift(p, 0, 14, state, true);
      x.shift(p, state, 15, 0, true);
      x.entry(p, state, 65, 1, 'a');
      x.close(p);
      Cases.due("from state " + state, x.lengths(p, 0), 2);
      Cases.due("from state 0", x.lengths(p, 1), 3);
      x.entry(p, state, 66, 1, 'b');
    }
    x.fill(1);
    for (int p = 0; p < 3; p++) {
      Cases.due("no units, from state 0", x.lengths(p, 0), 0);
      Cases.due("no units, the end alone", x.lengths(p, 1), 1);
    }
  }

  /** Three shifts and three bytes for each of 1000 units: with the end more than a result holds. */
  private static void lengthsBeyondAResult() {
    CountedExchange x = Setups.with(Cases.TABLE);
    for (int state = 0; state < 3; state++) {
      x.shift(0, state, 11 + state, state + 1, true);
      x.shift(0, state + 1, 21 + state, state, true);
    }
    x.entry(0, 3, 0x434445, 3, 'd');
    x.entry(0, 0, 0x313233, 3, 'a');
    x.close(0);
    int[] row = new int[1000];
    for (int i = 0; i < 1000; i++) {
      row[i] = i % 2 == 0 ? 'a' : 'd';
    }
    Setups.putUnits(x, row);
    Cases.due("from 0", x.lengths(0, 0), 6000);
    Cases.due("from 3", x.lengths(0, 1), 6003);
    Cases.due("from 0", x.encode(0, Cases.REFUSE), 6000);
  }

  private static void lengthsNoPage() {
    CountedExchange x = Setups.with(Cases.FEW);
    for (int odd : Cases.ODD) {
      Cases.due("page " + odd, x.lengths(odd, 0), Cases.BEYOND);
    }
    Cases.due("page 1", x.lengths(1, 0), Cases.BEYOND);
    Cases.due("page 0", x.lengths(0, 0), 0);
  }

  private static void lengthsOpen() {
    CountedExchange x = Setups.openShifting();
    Cases.due("open", x.lengths(0, 0), Cases.OPEN);
    x.close(0);
    Cases.due("closed", x.lengths(0, 0), 0);
  }

  private static void lengthsWhat() {
    CountedExchange x = Setups.small();
    for (int odd : Cases.ODD) {
      Cases.due("what " + odd, x.lengths(0, odd), Cases.BEYOND);
    }
    Cases.due("what 2", x.lengths(0, 2), Cases.BEYOND);
    Cases.due("what 1", x.lengths(0, 1), 0);
  }

  private static void lengthsMissing() {
    CountedExchange x = Setups.shifting();
    x.sign(1, 'a');
    Setups.giveFallback(x, 'x', 'a');
    int[][] rows = {{'q'}, {'a', 'b', 'x'}, {'d', 0xDC41}, {'c', 0xD800}, {'c', 'c', 'c', 0xD83D, 0xDE00, 'q'}};
    int[] places = {0, 2, 1, 1, 3};
    for (int i = 0; i < rows.length; i++) {
      for (int what = 0; what < 2; what++) {
        Setups.putUnits(x, 'q', 'q');
        Setups.putUnits(x, rows[i]);
        Cases.due("missing", x.lengths(0, what), Cases.MISSING);
        Cases.due("told(0)", x.told(0), places[i]);
      }
    }
    Setups.putUnits(x, Setups.joined(Setups.times(999, 'a'), new int[] {'q'}));
    Cases.due("at the last place", x.lengths(0, 0), Cases.MISSING);
    Cases.due("told(0)", x.told(0), 999);
  }

  // ---- promise 30: send

  private static long sumOf(int[] row) {
    long sum = 0;
    for (int i = 0; i < row.length; i++) {
      sum += (i + 1L) * row[i];
    }
    return sum;
  }

  private static void sends() {
    CountedExchange x = Setups.with(Cases.TABLE, Cases.TABLE);
    x.entry(0, 0, 0x4142, 2, 0x10FFFF);
    x.entry(0, 1, 0xFF, 1, -1 - 0x10FFFF);
    x.entry(0, 3, 0, 3, 0);
    x.shift(0, 0, 14, 1, true);
    x.shift(0, 1, 254, 0, true);
    x.shift(0, 1, 0, 3, false);
    x.close(0);
    x.close(1);
    int[] row = {3, 0, 2, 0x41, 0x42, 0x10, 0xFF, 0xFF, 1, 1, 1, 0xFF, 0x10, 0xFF, 0xFF, 0, 3, 3, 0, 0, 0, 0, 0, 0, 1,
        3, 0, 14, 1, 1, 1, 254, 0, 1, 1, 0, 3, 0};
    int sum = (int) (sumOf(row) % 65521);
    Cases.due("send", x.send(0), row.length + 2);
    Setups.dueResult(x, Setups.joined(row, new int[] {sum / 256, sum % 256}));
    Cases.due("of bytes", x.told(8), 2);
    Cases.due("an empty page", x.send(1), 4);
    Setups.dueResult(x, 0, 0, 0, 0);
  }

  private static void sendsTheLongest() {
    CountedExchange x = Setups.with(Cases.TABLE);
    for (int i = 0; i < 100; i++) {
      x.entry(0, 0, 0xFF0000 + i, 3, 0x10FF00 + i);
    }
    for (int i = 0; i < 10; i++) {
      x.shift(0, i < 5 ? 0 : 1, 200 + i, i < 5 ? 1 : 0, true);
    }
    x.close(0);
    Cases.due("944 bytes", x.send(0), 944);
    int[] row = new int[942];
    row[0] = 100;
    for (int i = 0; i < 100; i++) {
      int[] one = {0, 3, 0xFF, 0, i, 0x10, 0xFF, i, 1};
      System.arraycopy(one, 0, row, 1 + 9 * i, 9);
    }
    row[901] = 10;
    for (int i = 0; i < 10; i++) {
      int[] one = {i < 5 ? 0 : 1, 200 + i, i < 5 ? 1 : 0, 1};
      System.arraycopy(one, 0, row, 902 + 4 * i, 4);
    }
    int sum = (int) (sumOf(row) % 65521);
    Setups.dueResult(x, Setups.joined(row, new int[] {sum / 256, sum % 256}));
    Cases.due("it fits the bytes", x.fill(2), 944);
    Cases.due("and comes in", x.receive(), 1);
    Cases.due("entries", x.size(1, 2), 100);
    Cases.due("shifts", x.size(1, 3), 10);
    Cases.due("the same", x.differ(0, 1, 0x10FF00), Cases.NONE);
  }

  /** A page's bytes whose sum, before its remainder is taken, is just that; the last point is found out. */
  private static int[] pageWithSum(long target) {
    for (int many = 1; many <= 60; many++) {
      int[] row = new int[7 * many + 2];
      row[0] = many;
      for (int i = 0; i < many; i++) {
        int[] one = {0, 1, i, 0, 0, i, 1};
        System.arraycopy(one, 0, row, 1 + 7 * i, 7);
      }
      int low = 7 * many - 1;
      row[low] = 0;
      long left = target - sumOf(row);
      for (int high = 1; high < 0xD8 && left > 0; high++) {
        long rest = left - (long) low * high;
        if (rest >= 0 && rest % (low + 1) == 0 && rest / (low + 1) < 256) {
          row[low - 1] = high;
          row[low] = (int) (rest / (low + 1));
          return row;
        }
      }
    }
    throw new IllegalStateException("no page has the sum " + target);
  }

  private static void sumsWrapAround() {
    long[] sums = {255, 256, 65520, 65521, 65522, 65535, 65536, 2 * 65521 - 1, 2 * 65521, 2 * 65521 + 1};
    for (long sum : sums) {
      int[] row = pageWithSum(sum);
      Cases.due("the sum of the test", sumOf(row), sum);
      CountedExchange x = Setups.with(Cases.TABLE);
      for (int i = 1; i + 7 < row.length; i += 7) {
        x.entry(0, row[i], row[i + 2], 1, row[i + 3] << 16 | row[i + 4] << 8 | row[i + 5]);
      }
      Cases.due("close", x.close(0), 0);
      Cases.due("send", x.send(0), row.length + 2);
      Cases.due("the high byte of " + sum, x.result(row.length), sum % 65521 / 256);
      Cases.due("the low byte of " + sum, x.result(row.length + 1), sum % 65521 % 256);
      Setups.putBytes(x, Setups.joined(row, new int[] {(int) (sum % 65521 / 256), (int) (sum % 65521 % 256)}));
      Cases.due("receive", x.receive(), 1);
      Setups.putBytes(x, Setups.joined(row, new int[] {(int) (sum % 65536 / 256), (int) (sum % 65536 % 256)}));
      Cases.due("by 65536", x.receive(), sum < 65521 ? 2 : Cases.SUM);
    }
  }

  private static void sendNoPage() {
    CountedExchange x = new CountedExchange();
    Cases.due("no pages", x.send(0), Cases.BEYOND);
    x.page(Cases.TABLE);
    x.close(0);
    for (int odd : Cases.ODD) {
      Cases.due("page " + odd, x.send(odd), Cases.BEYOND);
    }
    Cases.due("page 1", x.send(1), Cases.BEYOND);
    Cases.due("page 0", x.send(0), 4);
  }

  private static void sendKind() {
    CountedExchange x = Setups.with(Cases.HIGH, Cases.LOW, Cases.FEW);
    for (int p = 0; p < 3; p++) {
      Cases.due("page " + p, x.send(p), Cases.KIND);
    }
    Cases.due("no result", x.told(8), 0);
  }

  private static void sendOpen() {
    CountedExchange x = Setups.openShifting();
    Cases.due("open", x.send(0), Cases.OPEN);
    Cases.due("no result", x.told(8), 0);
    x.close(0);
    Cases.due("closed", x.send(0), 1 + 7 + 7 + 8 + 9 + 1 + 24 + 2);
    x.derive(0);
    Cases.due("a derived one", x.send(1), Cases.OPEN);
    Cases.due("the result stays", x.told(7), 59);
  }

  // ---- promise 31: receive

  private static void receives() {
    CountedExchange x = Setups.shifting();
    x.send(0);
    x.fill(2);
    Cases.due("receive", x.receive(), 1);
    int[] want = {0, 1, 4, 6};
    for (int what = 0; what < 4; what++) {
      Cases.due("size(1, " + what + ")", x.size(1, what), want[what]);
    }
    Cases.due("the same", x.differ(0, 1, 0), Cases.NONE);
    Cases.due("once more", x.receive(), 2);
    Cases.due("sent again", x.send(1), 59);
    Setups.putUnits(x, 'd', 'c', 'b', 'a');
    Cases.due("it writes", x.encode(1, Cases.REFUSE), 13);
    Setups.dueResult(x, 14, 16, 0x43, 0x44, 0x45, 17, 27, 0x41, 0x42, 14, 65, 15, 65);
    x.fill(2);
    Cases.due("it reads", x.decode(2, Cases.REFUSE), 4);
    Setups.dueResult(x, 'd', 'c', 'b', 'a');
    Cases.due("the least page", Setups.receive(x, 0, 0), 3);
    Cases.due("no entries", x.size(3, 2), 0);
    Cases.due("closed", x.close(3), Cases.CLOSED);
  }

  private static void receiveFull() {
    CountedExchange x = new CountedExchange();
    for (int p = 0; p < 9; p++) {
      x.page(Cases.FEW);
    }
    Cases.due("the 10th", Setups.receive(x, 0, 0), 9);
    Cases.due("the 11th", x.receive(), Cases.FULL);
    Cases.due("the bytes stay", x.told(5), 4);
    x.fill(0);
    Cases.due("without bytes", x.receive(), Cases.FULL);
    Cases.due("pages", x.told(4), 10);
  }

  private static void receiveSum() {
    CountedExchange x = new CountedExchange();
    int[][] few = {{}, {0}, {0, 0}, {0, 0, 0}, {5, 0, 5}};
    for (int[] row : few) {
      Setups.putBytes(x, row);
      Cases.due(row.length + " bytes", x.receive(), Cases.SUM);
    }
    int[][] other = {{0, 0, 0, 1}, {0, 0, 1, 0}, {0, 1, 0, 0}, {1, 0, 0, 0}, {0, 0, 255, 255}, {0, 0, 255, 241},
        {1, 1, 3, 0}};
    for (int[] row : other) {
      Setups.putBytes(x, row);
      Cases.due("another sum", x.receive(), Cases.SUM);
      Cases.due("the bytes stay", x.told(5), 4);
    }
    Setups.putBytes(x, 1, 1, 0, 3);
    Cases.due("its sum, but no page", x.receive(), Cases.BAD);
    Setups.putBytes(x, 0, 0, 0, 0);
    Cases.due("its sum", x.receive(), 0);
    int[] row = {1, 0, 1, 65, 0, 0, 97, 1, 0};
    int sum = (int) sumOf(row);
    for (int apart : new int[] {-256, -1, 1, 256}) {
      Setups.putBytes(x, Setups.joined(row, new int[] {(sum + apart) / 256, (sum + apart) % 256}));
      Cases.due("apart by " + apart, x.receive(), Cases.SUM);
    }
    Setups.putBytes(x, Setups.joined(row, new int[] {sum % 256, sum / 256}));
    Cases.due("the low one first", x.receive(), Cases.SUM);
    Cases.due("its sum", Setups.receive(x, row), 1);
    Setups.putBytes(x, Setups.times(1000, 255));
    Cases.due("1000 bytes", x.receive(), Cases.SUM);
  }

  private static void dueNoPage(CountedExchange x, String why, int... row) {
    Cases.due(why, Setups.receive(x, row), Cases.BAD);
    Cases.due("no page came", x.told(4), 0);
    Cases.due("the bytes stay", x.told(5), row.length + 2);
  }

  private static void receiveOtherLength() {
    CountedExchange x = new CountedExchange();
    dueNoPage(x, "no shifts' number", 1, 0, 1, 65, 0, 0, 97, 1);
    dueNoPage(x, "more bytes", 0, 0, 0);
    dueNoPage(x, "more bytes", 1, 0, 1, 65, 0, 0, 97, 1, 0, 0);
    dueNoPage(x, "an entry more", 0, 0, 1, 65, 0, 0, 97, 1, 0);
    dueNoPage(x, "an entry fewer", 2, 0, 1, 65, 0, 0, 97, 1, 0);
    dueNoPage(x, "a shift more", 0, 0, 0, 14, 1, 0);
    dueNoPage(x, "a shift fewer", 0, 2, 0, 14, 1, 0);
    dueNoPage(x, "entries without bytes", 1, 0);
    dueNoPage(x, "100 entries without bytes", 100, 0);
    dueNoPage(x, "10 shifts without bytes", 0, 10);
    for (int cut = 2; cut < 8; cut++) {
      dueNoPage(x, "an entry cut at " + cut, Arrays.copyOf(new int[] {1, 0, 1, 65, 0, 0, 97, 1}, cut));
    }
    for (int cut = 2; cut < 6; cut++) {
      dueNoPage(x, "a shift cut at " + cut, Arrays.copyOf(new int[] {0, 1, 0, 14, 1, 0}, cut));
    }
    dueNoPage(x, "a text of three, cut", 1, 0, 3, 65, 66, 0, 0, 97, 1);
    Cases.due("a good one", Setups.receive(x, 1, 0, 1, 65, 0, 0, 97, 1, 1, 0, 14, 1, 0), 0);
  }

  private static int[] manyEntries(int many) {
    int[] row = new int[2 + 7 * many];
    row[0] = many;
    for (int i = 0; i < many; i++) {
      int[] one = {0, 1, i, 0, 0, i, 1};
      System.arraycopy(one, 0, row, 1 + 7 * i, 7);
    }
    return row;
  }

  private static int[] manyShifts(int many) {
    int[] row = new int[2 + 4 * many];
    row[1] = many;
    for (int i = 0; i < many; i++) {
      int[] one = {0, i, 1, 0};
      System.arraycopy(one, 0, row, 2 + 4 * i, 4);
    }
    return row;
  }

  private static void receiveTooMany() {
    CountedExchange x = new CountedExchange();
    dueNoPage(x, "101 entries", manyEntries(101));
    dueNoPage(x, "11 shifts", manyShifts(11));
    dueNoPage(x, "255 entries", 255, 0);
    dueNoPage(x, "255 shifts", 0, 255);
    Cases.due("100 entries", Setups.receive(x, manyEntries(100)), 0);
    Cases.due("10 shifts", Setups.receive(x, manyShifts(10)), 1);
    Cases.due("entries", x.size(0, 2), 100);
    Cases.due("shifts", x.size(1, 3), 10);
  }

  private static void receiveOutOfBounds() {
    CountedExchange x = new CountedExchange();
    dueNoPage(x, "state 4", 1, 4, 1, 65, 0, 0, 97, 0, 0);
    dueNoPage(x, "state 255", 1, 255, 1, 65, 0, 0, 97, 0, 0);
    dueNoPage(x, "n 0", 1, 0, 0, 0, 0, 97, 1, 0);
    dueNoPage(x, "n 4", 1, 0, 4, 1, 2, 3, 4, 0, 0, 97, 1, 0);
    dueNoPage(x, "n 255", 1, 0, 255, 1, 0, 0, 97, 1, 0);
    dueNoPage(x, "the first half", 1, 0, 1, 65, 0, 0xD8, 0, 1, 0);
    dueNoPage(x, "the last half", 1, 0, 1, 65, 0, 0xDF, 0xFF, 1, 0);
    dueNoPage(x, "behind the last point", 1, 0, 1, 65, 0x11, 0, 0, 1, 0);
    dueNoPage(x, "far behind", 1, 0, 1, 65, 0xFF, 0xFF, 0xFF, 1, 0);
    dueNoPage(x, "n 14, though the rest would be two shifts", 2, 0, 14, 1, 0, 0, 15, 1, 0);
    dueNoPage(x, "preferred 2, though the rest would be two shifts", 2, 0, 1, 1, 0, 0, 2, 2, 0);
    dueNoPage(x, "a shift's state 4", 0, 1, 4, 14, 1, 0);
    dueNoPage(x, "a shift's goal 4", 0, 1, 0, 14, 4, 0);
    dueNoPage(x, "a shift's goal 255", 0, 1, 0, 14, 255, 0);
    Cases.due("the edges", Setups.receive(x, 3, 0, 1, 65, 0x10, 0xFF, 0xFF, 1, 0, 3, 0, 0, 0, 0, 0xD7, 0xFF, 1,
        3, 2, 255, 255, 0, 0xE0, 0, 1, 1, 0, 255, 3, 0), 0);
    Cases.due("the last point", x.code(0, 0x10FFFF), Setups.text(1, 65));
    Cases.due("ahead of the halves", x.code(0, 0xD7FF), Setups.text(3, 0));
    Cases.due("behind the halves", x.code(0, 0xE000), Setups.text(2, 0xFFFF));
  }

  private static void receiveTwice() {
    CountedExchange x = new CountedExchange();
    for (int state = 0; state < 4; state++) {
      dueNoPage(x, "a shift to its own state", 0, 1, state, 14, state, 0);
    }
    dueNoPage(x, "two entries alike", 2, 0, 1, 65, 0, 0, 97, 1, 0, 1, 65, 0, 0, 97, 0, 0);
    dueNoPage(x, "two entries alike but for their points", 2, 0, 1, 65, 0, 0, 97, 1, 0, 1, 65, 0, 0, 98, 1, 0);
    dueNoPage(x, "two shifts alike", 0, 2, 0, 14, 1, 0, 0, 14, 1, 0);
    dueNoPage(x, "two shifts alike but for their goals", 0, 2, 0, 14, 1, 0, 0, 14, 2, 0);
    dueNoPage(x, "preferred 2", 1, 0, 1, 65, 0, 0, 97, 2, 0);
    dueNoPage(x, "preferred 2 beside 1", 2, 0, 1, 65, 0, 0, 97, 1, 0, 1, 66, 0, 0, 97, 2, 0);
    dueNoPage(x, "preferred 255", 1, 0, 1, 65, 0, 0, 97, 255, 0);
    dueNoPage(x, "sticky 2", 0, 1, 0, 14, 1, 2);
    dueNoPage(x, "sticky 255", 0, 1, 0, 14, 1, 255);
    Cases.due("of two states", Setups.receive(x, 2, 0, 1, 65, 0, 0, 97, 1, 1, 1, 65, 0, 0, 97, 0, 2, 0, 14, 1, 1,
        1, 14, 0, 1), 0);
  }

  private static void receiveNotGood() {
    CountedExchange x = new CountedExchange();
    dueNoPage(x, "rule 1", 2, 0, 1, 65, 0, 0, 97, 1, 0, 2, 65, 66, 0, 0, 98, 1, 0);
    dueNoPage(x, "rule 1 with a shift", 1, 0, 1, 14, 0, 0, 97, 1, 1, 0, 14, 1, 0);
    dueNoPage(x, "rule 2: none", 1, 0, 1, 65, 0, 0, 97, 0, 0);
    dueNoPage(x, "rule 2: two", 2, 0, 1, 65, 0, 0, 97, 1, 0, 1, 66, 0, 0, 97, 1, 0);
    dueNoPage(x, "rule 3", 0, 1, 0, 14, 1, 1);
    dueNoPage(x, "rule 4", 1, 1, 1, 65, 0, 0, 97, 1, 0);
    Cases.due("told(1) is of close()", x.told(1), 0);
    Cases.due("a good one then", Setups.receive(x, 1, 0, 1, 65, 0, 0, 97, 1, 0), 0);
    Cases.due("another", Setups.receive(x, 1, 0, 1, 66, 0, 0, 98, 1, 0), 1);
    Cases.due("the first stays", x.code(0, 97), Setups.text(1, 65));
    Cases.due("the second", x.code(1, 98), Setups.text(1, 66));
    Cases.due("of the first alone", x.code(1, 97), Cases.NONE);
  }

  private static void receiveBytesStay() {
    CountedExchange x = new CountedExchange();
    Setups.receive(x, 1, 0, 1, 65, 0, 0, 97, 1, 0);
    Cases.due("with a page", x.told(5), 11);
    Cases.due("as they were", x.receive(), 1);
    x.bytesIn(0, 1);
    Cases.due("SUM", x.receive(), Cases.SUM);
    Cases.due("with a finding", x.told(5), 12);
    Cases.due("a's byte among them", x.faults(0), 11);
    Setups.receive(x, 1, 0, 1, 65, 0, 0, 97, 0, 0);
    Cases.due("with a finding", x.told(5), 11);
    Cases.due("BAD again", x.receive(), Cases.BAD);
  }

  // ---- promise 32: told

  private static void toldPlace() {
    CountedExchange x = Setups.small();
    x.page(Cases.FEW);
    Cases.due("0 at first", x.told(0), 0);
    Setups.putBytes(x, 1, 2, 9);
    x.decode(0, Cases.REFUSE);
    Cases.due("decode", x.told(0), 2);
    Setups.putUnits(x, 'a', 'q');
    x.encode(0, Cases.REFUSE);
    Cases.due("encode", x.told(0), 1);
    Setups.putBytes(x, 1, 2, 3, 9);
    x.transcode(0, Cases.REFUSE, 1, Cases.REFUSE);
    Cases.due("transcode, malformed", x.told(0), 3);
    x.transcode(0, Cases.SIGN, 0, Cases.REFUSE);
    Cases.due("transcode, missing", x.told(0), 3);
    x.lengths(0, 0);
    Cases.due("lengths", x.told(0), 1);
    x.begin(0, 0, false, Cases.REFUSE);
    x.feed(0, 9);
    Cases.due("feed", x.told(0), 0);
    x.begin(0, 0, true, Cases.REFUSE);
    x.feed(0, 'a');
    x.feed(0, 'a');
    x.feed(0, 0xD800);
    x.end(0);
    Cases.due("end", x.told(0), 2);
    x.decode(0, Cases.KEEP);
    x.faults(0);
    x.misread(0, 1);
    x.detect();
    x.encode(0, Cases.SIGN);
    x.differ(0, 1, 0);
    Cases.due("none of these", x.told(0), 2);
    x.begin(1, 1, false, Cases.REFUSE);
    Cases.due("nothing waits", x.feed(1, 0xC3), 0);
    Cases.due("nor a byte that is kept", x.told(0), 2);
    Cases.due("one waits", x.feed(1, 0xA9), 1);
    Cases.due("nor one that is read", x.told(0), 2);
    Cases.due("one waits", x.end(1), 1);
    Cases.due("nor an end", x.told(0), 2);
    x.begin(1, 1, true, Cases.REFUSE);
    Cases.due("nothing waits", x.feed(1, 0xD83D), 0);
    Cases.due("four wait", x.feed(1, 0xDE00), 4);
    Cases.due("nor a unit", x.told(0), 2);
    x.begin(1, 1, true, Cases.REFUSE);
    Cases.due("nothing waits", x.end(1), 0);
    Cases.due("nor an end without anything", x.told(0), 2);
  }

  private static void toldBroken() {
    CountedExchange x = Setups.with(Cases.TABLE, Cases.TABLE);
    for (int what = 1; what <= 3; what++) {
      Cases.due("0 at first", x.told(what), 0);
    }
    x.entry(0, 0, 1, 1, 'a');
    x.entry(0, 0, 0x0101, 2, 'b');
    Setups.dueBad(x, 0, 1, 0, 1);
    x.entry(1, 0, 1, 1, -1 - 'c');
    Setups.dueBad(x, 1, 2, 'c', 0);
    x.drop(1, 0, 1, 1);
    x.close(1);
    Setups.receive(x, 0, 1, 0, 14, 1, 1);
    x.fallback(0xD800);
    x.unitsIn(0xD800, 1);
    Cases.due("another BAD", x.fallback('a'), Cases.BAD);
    Cases.due("told(1) stays", x.told(1), 2);
    Cases.due("told(2) stays", x.told(2), 'c');
    Cases.due("told(3) stays", x.told(3), 0);
  }

  private static void toldNumbers() {
    CountedExchange x = Setups.small();
    Cases.due("pages", x.told(4), 1);
    x.derive(0);
    Setups.receive(x, 0, 0);
    Cases.due("pages", x.told(4), 3);
    Cases.due("bytes", x.told(5), 4);
    Setups.putUnits(x, 'a', 'b', 'c', 'a', 'b');
    Cases.due("units", x.told(6), 5);
    Cases.due("values", x.told(7), 0);
    Cases.due("none", x.told(8), 0);
    Setups.putBytes(x, 1, 2);
    x.decode(0, Cases.REFUSE);
    Cases.due("values", x.told(7), 2);
    Cases.due("units", x.told(8), 1);
    x.encode(0, Cases.REFUSE);
    Cases.due("values", x.told(7), 5);
    Cases.due("bytes", x.told(8), 2);
    x.fill(0);
    x.decode(0, Cases.REFUSE);
    Cases.due("values", x.told(7), 0);
    Cases.due("units, yet none", x.told(8), 1);
    x.send(0);
    Cases.due("a sent page is bytes", x.told(8), 2);
    x.decode(0, Cases.REFUSE);
    x.transcode(0, Cases.REFUSE, 0, Cases.REFUSE);
    Cases.due("transcoded are bytes", x.told(8), 2);
    Cases.due("fallbacks", x.told(9), 0);
    Setups.giveFallback(x, 'x', 'a');
    Setups.giveFallback(x, 'y', 'a');
    Setups.giveFallback(x, 'x', 'b');
    Cases.due("fallbacks", x.told(9), 2);
    x.fallback('x');
    Cases.due("fallbacks", x.told(9), 1);
    Cases.due("bytes", x.told(5), 0);
  }

  private static void toldFindings() {
    CountedExchange x = new CountedExchange();
    Cases.due("none", x.told(10), 0);
    Cases.due("BEYOND", x.told(11), Cases.BEYOND);
    Cases.due("this one, too", x.told(10), 1);
    Cases.due("it answers none itself", x.told(10), 1);
    x.code(0, 'a');
    Cases.due("that of a long answer", x.told(10), 2);
    x.detect();
    x.result(0);
    x.take(0);
    x.receive();
    Cases.due("four more", x.told(10), 6);
    x.page(Cases.FEW);
    x.fill(0);
    x.detect();
    x.misread(0, 0);
    Cases.due("answers of 0 are none", x.told(10), 6);
    Setups.putBytes(x, 0xFF);
    x.decode(0, Cases.REFUSE);
    Setups.putUnits(x, 0xD800);
    x.encode(0, Cases.REFUSE);
    x.begin(0, 0, false, Cases.REFUSE);
    x.feed(0, 0xFF);
    x.end(0);
    Cases.due("four more", x.told(10), 10);
  }

  private static void toldBeyond() {
    CountedExchange x = new CountedExchange();
    for (int odd : Cases.ODD) {
      Cases.due("told(" + odd + ")", x.told(odd), Cases.BEYOND);
    }
    Cases.due("told(11)", x.told(11), Cases.BEYOND);
    Cases.due("told(10)", x.told(10), Cases.ODD.length + 1);
  }

  static Cases cases() {
    Cases all = new Cases();
    comparing(all);
    counting(all);
    sending(all);
    telling(all);
    return all;
  }

  private static void comparing(Cases all) {
    all.section("Promise 24")
        .say("How many points of from .. to have an entry.", BesideTest::coverageCounts)
        .say("BEYOND: no such page.", BesideTest::coverageNoPage)
        .say("OPEN.", BesideTest::coverageOpen)
        .say("BEYOND: from or to is not 0 to 0x10FFFF, to is below from, or 65536 or more above it.",
            BesideTest::coverageBeyond);
    all.section("Promise 25")
        .say("The first point, from one on and below that and 4096, that only one of two pages has,",
            BesideTest::differOnlyOne)
        .say("or that both write (alone, from state 0, with the end) to different bytes.",
            BesideTest::differOtherBytes, BesideTest::differAlone)
        .say("NONE: there is none.", BesideTest::differNone)
        .say("BEYOND: no such page (either).", BesideTest::differNoPage)
        .say("OPEN.", BesideTest::differOpen)
        .say("BEYOND: from is not 0 to 0x10FFFF.", BesideTest::differBeyond);
    all.section("Promise 26")
        .say("The bytes are read by two pages under KEEP: at how many places the units differ (a place that only one "
            + "has, too).", BesideTest::misreads)
        .say("BEYOND.", BesideTest::misreadBeyond)
        .say("OPEN.", BesideTest::misreadOpen);
  }

  private static void counting(Cases all) {
    all.section("Promise 27")
        .say("How many of the bytes are malformed for a page.", BesideTest::countsFaults)
        .say("BEYOND.", BesideTest::faultsBeyond)
        .say("OPEN.", BesideTest::faultsOpen);
    all.section("Promise 28")
        .say("The closed page with the fewest faults, of these the lowest.", BesideTest::detects)
        .say("NONE: none is closed.", BesideTest::detectNone);
    all.section("Promise 29")
        .say("Of the bytes that the units are written to (the end, too), beginning at each reached state: the fewest "
            + "(what = 0), or the most (1).", BesideTest::lengthsOfAll, BesideTest::lengthsOfEachState,
            BesideTest::lengthsBeyondAResult)
        .say("BEYOND: no such page.", BesideTest::lengthsNoPage)
        .say("OPEN.", BesideTest::lengthsOpen)
        .say("BEYOND: another what.", BesideTest::lengthsWhat)
        .say("MISSING (as under REFUSE): told(0) is the place then.", BesideTest::lengthsMissing);
  }

  private static void sending(Cases all) {
    all.section("Promise 30")
        .say("A closed TABLE page comes to the result, as bytes: how many entries; for each, by number: its state, n, "
            + "its n bytes, its point (three bytes, the high one first), 1 or 0 (preferred); how many shifts; for each "
            + "its state, byte, goal, 1 or 0 (sticky);", BesideTest::sends)
        .say("then two bytes, the high one first: the sum over all bytes ahead of the place (from 1) times the byte, "
            + "modulo 65521.", BesideTest::sumsWrapAround)
        .say("How many bytes.", BesideTest::sendsTheLongest)
        .say("BEYOND: no such page.", BesideTest::sendNoPage)
        .say("KIND.", BesideTest::sendKind)
        .say("OPEN.", BesideTest::sendOpen);
    all.section("Promise 31")
        .say("The bytes are a page that was sent: a new page, closed: its number.", BesideTest::receives)
        .say("FULL: there are 10 pages.", BesideTest::receiveFull)
        .say("SUM: there are fewer than 4 bytes, or the last two are not that sum of the others.",
            BesideTest::receiveSum)
        .say("BAD: they are none (more or fewer bytes than are told,", BesideTest::receiveOtherLength)
        .say("more than 100 entries or 10 shifts,", BesideTest::receiveTooMany)
        .say("a number out of bounds,", BesideTest::receiveOutOfBounds)
        .say("a shift to its own state, two entries of one state and byte text, two shifts of one state and byte, "
            + "another number than 0 or 1),", BesideTest::receiveTwice)
        .say("or the page would not be good.", BesideTest::receiveNotGood)
        .say("(The bytes stay.)", BesideTest::receiveBytesStay);
  }

  private static void telling(Cases all) {
    all.section("Promise 32")
        .say("0 the place of the latest MALFORMED or MISSING,", BesideTest::toldPlace)
        .say("1 to 3 as of the latest BAD of close() (0 at first),", BesideTest::toldBroken)
        .say("4 pages, 5 bytes, 6 units, 7 values of the result, 8 what these are: 0 none, 1 units, 2 bytes, 9 "
            + "fallbacks,", BesideTest::toldNumbers)
        .say("10 how many acts answered a finding (this one, too, if it does).", BesideTest::toldFindings)
        .say("BEYOND: another what.", BesideTest::toldBeyond);
  }

  public static void main(String[] args) {
    cases().run();
  }
}
