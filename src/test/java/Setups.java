/** What the tests of the sentences set up and ask alike, with few calls. */
final class Setups {
  private Setups() { }

  static void putBytes(CountedExchange x, int... row) {
    x.fill(0);
    addBytes(x, row);
  }

  static void addBytes(CountedExchange x, int... row) {
    for (int from = 0; from < row.length; from += 8) {
      int n = Math.min(8, row.length - from);
      long w = 0;
      for (int i = 0; i < n; i++) {
        w = w << 8 | row[from + i];
      }
      x.bytesIn(w, n);
    }
  }

  static void putUnits(CountedExchange x, int... row) {
    x.fill(1);
    addUnits(x, row);
  }

  static void addUnits(CountedExchange x, int... row) {
    for (int from = 0; from < row.length; from += 4) {
      int n = Math.min(4, row.length - from);
      long w = 0;
      for (int i = 0; i < n; i++) {
        w = w << 16 | row[from + i];
      }
      x.unitsIn(w, n);
    }
  }

  static int[] times(int many, int value) {
    int[] row = new int[many];
    java.util.Arrays.fill(row, value);
    return row;
  }

  static int[] joined(int[]... rows) {
    return java.util.Arrays.stream(rows).flatMapToInt(java.util.Arrays::stream).toArray();
  }

  /** The result is just that; a long one is looked at from both its ends. */
  static void dueResult(CountedExchange x, int... want) {
    Cases.due("told(7)", x.told(7), want.length);
    for (int i = 0; i < want.length; i++) {
      if (i < 60 || i >= want.length - 20) {
        Cases.due("result(" + i + ")", x.result(i), want[i]);
      }
    }
    Cases.due("result(" + want.length + ")", x.result(want.length), Cases.NONE);
  }

  static void dueTaken(CountedExchange x, int d, int... want) {
    Cases.due("machine(" + d + ", 0)", x.machine(d, 0), want.length);
    for (int i = 0; i < want.length; i++) {
      Cases.due("take " + i, x.take(d), want[i]);
    }
    Cases.due("take behind the last", x.take(d), Cases.NONE);
  }

  /** How many wait, state, pending, kept, phase. */
  static void dueMachine(CountedExchange x, int d, int... want) {
    for (int what = 0; what < want.length; what++) {
      Cases.due("machine(" + d + ", " + what + ")", x.machine(d, what), want[what]);
    }
  }

  static void dueBad(CountedExchange x, int p, int rule, int first, int second) {
    Cases.due("close(" + p + ")", x.close(p), Cases.BAD);
    Cases.due("told(1)", x.told(1), rule);
    Cases.due("told(2)", x.told(2), first);
    Cases.due("told(3)", x.told(3), second);
    Cases.due("still open", x.size(p, 1), 0);
  }

  static long text(int n, long bytes) {
    return ((long) n << 32) + bytes;
  }

  static CountedExchange with(int... kinds) {
    CountedExchange x = new CountedExchange();
    for (int kind : kinds) {
      x.page(kind);
    }
    return x;
  }

  /** Page 0 is a closed table: bytes 1, 2, 3 are a, b, c. */
  static CountedExchange small() {
    CountedExchange x = with(Cases.TABLE);
    x.entry(0, 0, 1, 1, 'a');
    x.entry(0, 0, 2, 1, 'b');
    x.entry(0, 0, 3, 1, 'c');
    Cases.due("close(0)", x.close(0), 0);
    return x;
  }

  /** Page 0 is an open table of the given states: see shifting(). */
  static CountedExchange openShifting() {
    CountedExchange x = with(Cases.TABLE);
    x.shift(0, 0, 14, 1, true);
    x.shift(0, 1, 15, 0, true);
    x.shift(0, 1, 16, 3, true);
    x.shift(0, 3, 17, 0, true);
    x.shift(0, 0, 27, 2, false);
    x.shift(0, 1, 28, 2, false);
    x.entry(0, 0, 65, 1, 'a');
    x.entry(0, 1, 65, 1, 'b');
    x.entry(0, 2, 0x4142, 2, 'c');
    x.entry(0, 3, 0x434445, 3, 'd');
    return x;
  }

  /**
   * Page 0 is a closed table with four states: 0 has a, 1 has b, 2 has c (by a single shift from 0
   * or 1), 3 has d; sticky 14 leads 0 to 1, 15 leads 1 to 0, 16 leads 1 to 3, 17 leads 3 to 0.
   */
  static CountedExchange shifting() {
    CountedExchange x = openShifting();
    Cases.due("close(0)", x.close(0), 0);
    return x;
  }

  /**
   * Page 0 is a closed table: a is three bytes, b one, both of state 0; d is one byte of state 1,
   * to which sticky 14 leads, 15 back. The fallback of y is four times a, that of x four times y:
   * 48 bytes.
   */
  static CountedExchange wide() {
    CountedExchange x = with(Cases.TABLE);
    x.entry(0, 0, 0x010203, 3, 'a');
    x.entry(0, 0, 5, 1, 'b');
    x.entry(0, 1, 6, 1, 'd');
    x.shift(0, 0, 14, 1, true);
    x.shift(0, 1, 15, 0, true);
    Cases.due("close(0)", x.close(0), 0);
    giveFallback(x, 'y', 'a', 'a', 'a', 'a');
    giveFallback(x, 'x', 'y', 'y', 'y', 'y');
    return x;
  }

  static int giveFallback(CountedExchange x, int point, int... units) {
    putUnits(x, units);
    return x.fallback(point);
  }

  /** Puts a page's bytes in, with their sum behind them. */
  static int receive(CountedExchange x, int... row) {
    long sum = 0;
    for (int i = 0; i < row.length; i++) {
      sum += (i + 1L) * row[i];
    }
    int left = (int) (sum % 65521);
    putBytes(x, joined(row, new int[] {left / 256, left % 256}));
    return x.receive();
  }
}
