/** The sentences of promises 19 to 23 (machines), each with a test of its own. */
public final class MachinesTest {
  /** What x of deep() is written to, eight times over. */
  private static final int[] PATTERN = {11, 12, 13, 0x43, 0x44, 0x45, 23, 22, 21, 0x31, 0x32, 0x33};

  private MachinesTest() { }

  /**
   * Page 0 is a closed table whose points lie far apart: d is of state 3, three shifts away from a
   * and b of state 0. The fallback of x is sixteen points, d and a in turn: 96 bytes.
   */
  private static CountedExchange deep() {
    CountedExchange x = Setups.with(Cases.TABLE);
    for (int state = 0; state < 3; state++) {
      x.shift(0, state, 11 + state, state + 1, true);
      x.shift(0, state + 1, 21 + state, state, true);
    }
    x.entry(0, 3, 0x434445, 3, 'd');
    x.entry(0, 0, 0x313233, 3, 'a');
    x.entry(0, 0, 5, 1, 'b');
    Cases.due("close(0)", x.close(0), 0);
    x.unitsIn(0x0064006100640061L, 4);
    x.fallback('y');
    x.unitsIn(0x0079007900790079L, 4);
    x.fallback('x');
    return x;
  }

  private static void feedAll(CountedExchange x, int d, int... row) {
    for (int value : row) {
      x.feed(d, value);
    }
  }

  // ---- promise 19: begin

  private static void begins() {
    CountedExchange x = Setups.shifting();
    Cases.due("reads", x.begin(0, 0, false, Cases.KEEP), 0);
    Setups.dueMachine(x, 0, 0, 0, 4, 0, 0);
    feedAll(x, 0, 65, 14, 28, 0x41);
    Setups.dueMachine(x, 0, 1, 1, 2, 1, 0);
    Cases.due("anew", x.begin(0, 0, false, Cases.REFUSE), 0);
    Setups.dueMachine(x, 0, 0, 0, 4, 0, 0);
    Cases.due("nothing waits", x.take(0), Cases.NONE);
    Cases.due("from state 0", x.feed(0, 65), 1);
    Cases.due("a", x.take(0), 'a');
    Cases.due("the new rule", x.feed(0, 99), Cases.MALFORMED);
    Cases.due("its place is counted anew", x.told(0), 1);
    Cases.due("writes now", x.begin(0, 0, true, Cases.KEEP), 0);
    Setups.dueMachine(x, 0, 0, 0, 4, 0, 0);
    feedAll(x, 0, 'd', 0xD800);
    Setups.dueMachine(x, 0, 5, 3, 4, 1, 0);
    Cases.due("anew", x.begin(0, 0, true, Cases.SIGN), 0);
    Setups.dueMachine(x, 0, 0, 0, 4, 0, 0);
    x.end(0);
    Cases.due("anew when it was ended", x.begin(0, 0, false, Cases.DROP), 0);
    Setups.dueMachine(x, 0, 0, 0, 4, 0, 0);
    Cases.due("others are not begun", x.machine(1, 0), Cases.NONE);
  }

  private static void beginNoMachineOrPage() {
    CountedExchange x = Setups.small();
    for (int odd : Cases.ODD) {
      Cases.due("machine " + odd, x.begin(odd, 0, true, 0), Cases.BEYOND);
      Cases.due("page " + odd, x.begin(0, odd, true, 0), Cases.BEYOND);
    }
    Cases.due("machine 4", x.begin(4, 0, true, 0), Cases.BEYOND);
    Cases.due("page 1", x.begin(0, 1, true, 0), Cases.BEYOND);
    Cases.due("page 1, reading", x.begin(0, 1, false, 0), Cases.BEYOND);
    Cases.due("not begun", x.machine(0, 0), Cases.NONE);
    Cases.due("machine 3", x.begin(3, 0, true, 0), 0);
    Cases.due("machine 0", x.begin(0, 0, false, 0), 0);
  }

  private static void beginOpen() {
    CountedExchange x = Setups.openShifting();
    Cases.due("open", x.begin(0, 0, true, 0), Cases.OPEN);
    Cases.due("open", x.begin(0, 0, false, 0), Cases.OPEN);
    Cases.due("not begun", x.machine(0, 0), Cases.NONE);
    x.close(0);
    Cases.due("closed", x.begin(0, 0, true, 0), 0);
  }

  private static void beginRule() {
    CountedExchange x = Setups.small();
    for (int odd : Cases.ODD) {
      Cases.due("rule " + odd, x.begin(0, 0, true, odd), Cases.BEYOND);
      Cases.due("rule " + odd, x.begin(0, 0, false, odd), Cases.BEYOND);
    }
    Cases.due("rule 5, writing", x.begin(0, 0, true, 5), Cases.BEYOND);
    Cases.due("rule 4, reading", x.begin(0, 0, false, 4), Cases.BEYOND);
    Cases.due("not begun", x.machine(0, 0), Cases.NONE);
    Cases.due("rule 4, writing", x.begin(0, 0, true, 4), 0);
    Cases.due("rule 3, reading", x.begin(1, 0, false, 3), 0);
    Cases.due("rule 0, reading", x.begin(2, 0, false, 0), 0);
    x.feed(0, 'a');
    Cases.due("rule 5, writing", x.begin(0, 0, true, 5), Cases.BEYOND);
    Setups.dueTaken(x, 0, 1);
  }

  // ---- promise 20: feed

  private static void feedComes() {
    CountedExchange x = Setups.shifting();
    x.begin(0, 0, false, Cases.REFUSE);
    int[] bytes = {14, 65, 28, 0x41, 0x42, 16, 0x43, 0x44, 0x45};
    int[] wait = {0, 1, 1, 1, 2, 2, 2, 2, 3};
    for (int i = 0; i < bytes.length; i++) {
      Cases.due("byte " + i, x.feed(0, bytes[i]), wait[i]);
    }
    Setups.dueTaken(x, 0, 'b', 'c', 'd');
    Cases.due("after all were taken", x.feed(0, 17), 0);
    Cases.due("after all were taken", x.feed(0, 65), 1);
    x.begin(1, 0, true, Cases.DROP);
    int[] units = {'a', 'c', 'b', 0xD83D, 0xDE00, 'q', 'd', 'c'};
    int[] many = {1, 4, 6, 6, 6, 6, 10, 14};
    for (int i = 0; i < units.length; i++) {
      Cases.due("unit " + i, x.feed(1, units[i]), many[i]);
    }
    Setups.dueTaken(x, 1, 65, 27, 0x41, 0x42, 14, 65, 16, 0x43, 0x44, 0x45, 17, 27, 0x41, 0x42);
    Setups.dueTaken(x, 0, 'a');
  }

  private static void feedNoMachine() {
    CountedExchange x = Setups.small();
    for (int odd : Cases.ODD) {
      Cases.due("machine " + odd, x.feed(odd, 1), Cases.BEYOND);
    }
    Cases.due("machine 4", x.feed(4, 1), Cases.BEYOND);
    x.begin(3, 0, false, Cases.REFUSE);
    Cases.due("machine 3", x.feed(3, 1), 1);
  }

  private static void feedNone() {
    CountedExchange x = Setups.small();
    for (int d = 0; d < 4; d++) {
      Cases.due("not begun", x.feed(d, 1), Cases.NONE);
    }
    x.begin(0, 0, false, Cases.REFUSE);
    x.feed(0, 1);
    x.end(0);
    Cases.due("ended", x.feed(0, 1), Cases.NONE);
    Setups.dueTaken(x, 0, 'a');
    Cases.due("still ended", x.feed(0, 1), Cases.NONE);
    x.begin(1, 0, true, Cases.REFUSE);
    x.feed(1, 'a');
    Cases.due("refused", x.feed(1, 'q'), Cases.MISSING);
    Cases.due("over", x.feed(1, 'a'), Cases.NONE);
    Cases.due("told(0) stays", x.told(0), 1);
    Setups.dueTaken(x, 1, 1);
    Cases.due("still over", x.feed(1, 'a'), Cases.NONE);
    Cases.due("others are not begun", x.feed(2, 1), Cases.NONE);
  }

  private static void feedNoValue() {
    CountedExchange x = Setups.with(Cases.LOW);
    x.begin(0, 0, false, Cases.KEEP);
    x.begin(1, 0, true, Cases.KEEP);
    for (int odd : Cases.ODD) {
      Cases.due("byte " + odd, x.feed(0, odd), Cases.BEYOND);
      Cases.due("unit " + odd, x.feed(1, odd), Cases.BEYOND);
    }
    Cases.due("byte 256", x.feed(0, 256), Cases.BEYOND);
    Cases.due("byte 65535", x.feed(0, 65535), Cases.BEYOND);
    Cases.due("unit 65536", x.feed(1, 65536), Cases.BEYOND);
    Setups.dueMachine(x, 0, 0, 0, 4, 0, 0);
    Setups.dueMachine(x, 1, 0, 0, 4, 0, 0);
    Cases.due("byte 255", x.feed(0, 255), 0);
    Cases.due("byte 0", x.feed(0, 0), 1);
    Cases.due("unit 256", x.feed(1, 256), 2);
    Cases.due("unit 65535", x.feed(1, 65535), 4);
    Cases.due("unit 0", x.feed(1, 0), 6);
  }

  private static void feedFull() {
    CountedExchange x = deep();
    x.begin(0, 0, true, Cases.FALLBACK);
    for (int i = 1; i <= 3; i++) {
      Cases.due("x", x.feed(0, 'x'), 96 * i);
    }
    Cases.due("d", x.feed(0, 'd'), 294);
    Cases.due("a", x.feed(0, 'a'), 300);
    Cases.due("300 are not more than 300", x.feed(0, 'b'), 301);
    Cases.due("301 are", x.feed(0, 'b'), Cases.FULL);
    Cases.due("a high half, too", x.feed(0, 0xD800), Cases.FULL);
    Cases.due("what would be refused, too", x.feed(0, 'q'), Cases.FULL);
    Setups.dueMachine(x, 0, 301, 0, 4, 0, 0);
    Cases.due("take", x.take(0), 11);
    Cases.due("300", x.feed(0, 'x'), 396);
    Cases.due("396", x.feed(0, 'b'), Cases.FULL);
    for (int i = 1; i < 300; i++) {
      Cases.due("take " + i, x.take(0), PATTERN[i % 12]);
    }
    Cases.due("b", x.take(0), 5);
    for (int i = 0; i < 96; i++) {
      Cases.due("take " + i, x.take(0), PATTERN[i % 12]);
    }
    Cases.due("no more", x.take(0), Cases.NONE);
    Cases.due("its place counts what came", x.feed(0, 'q'), Cases.MISSING);
    Cases.due("told(0)", x.told(0), 7);
  }

  /** What waits goes round: 480 values come and go, at most 390 at once. */
  private static void feedRound() {
    CountedExchange x = deep();
    x.begin(0, 0, true, Cases.FALLBACK);
    for (int i = 1; i <= 4; i++) {
      Cases.due("x", x.feed(0, 'x'), 96 * i);
    }
    for (int i = 0; i < 90; i++) {
      Cases.due("take " + i, x.take(0), PATTERN[i % 12]);
    }
    Cases.due("294 and 96", x.feed(0, 'x'), 390);
    for (int i = 90; i < 480; i++) {
      Cases.due("take " + i, x.take(0), PATTERN[i % 12]);
    }
    Cases.due("no more", x.take(0), Cases.NONE);
  }

  private static void feedFullReading() {
    CountedExchange x = Setups.with(Cases.TABLE);
    x.entry(0, 0, 1, 1, 'a');
    x.entry(0, 0, 2, 1, 0x10FFFF);
    x.close(0);
    x.begin(2, 0, false, Cases.REFUSE);
    for (int i = 1; i <= 150; i++) {
      Cases.due("two units", x.feed(2, 2), 2 * i);
    }
    Cases.due("300 are not more than 300", x.feed(2, 1), 301);
    Cases.due("301 are", x.feed(2, 1), Cases.FULL);
    Cases.due("what would be refused, too", x.feed(2, 9), Cases.FULL);
    Cases.due("end", x.end(2), Cases.FULL);
    Setups.dueMachine(x, 2, 301, 0, 4, 0, 0);
    Cases.due("take", x.take(2), 0xDBFF);
    Cases.due("300", x.feed(2, 2), 302);
    Cases.due("take", x.take(2), 0xDFFF);
    Cases.due("301", x.feed(2, 2), Cases.FULL);
    Cases.due("take", x.take(2), 0xDBFF);
    Cases.due("refused now", x.feed(2, 9), Cases.MALFORMED);
    Cases.due("its place counts what came", x.told(0), 152);
    Cases.due("all still wait", x.machine(2, 0), 300);
  }

  private static void feedMalformed() {
    CountedExchange x = Setups.with(Cases.TABLE, Cases.FEW);
    x.entry(0, 0, 0x010203, 3, 'a');
    x.entry(0, 0, 9, 1, 'b');
    x.close(0);
    x.begin(0, 0, false, Cases.REFUSE);
    Cases.due("the first byte", x.feed(0, 7), Cases.MALFORMED);
    Cases.due("its place", x.told(0), 0);
    Cases.due("over", x.machine(0, 4), 2);
    x.begin(0, 0, false, Cases.REFUSE);
    feedAll(x, 0, 9, 1, 2);
    Cases.due("a kept byte", x.feed(0, 9), Cases.MALFORMED);
    Cases.due("its place, not that of the last", x.told(0), 1);
    Setups.dueMachine(x, 0, 1, 0, 4, 0, 2);
    x.begin(0, 1, false, Cases.REFUSE);
    feedAll(x, 0, 'a', 0xE2, 0x82, 0xAC, 0xF0, 0x9F, 0x98);
    Cases.due("within four bytes", x.feed(0, 'a'), Cases.MALFORMED);
    Cases.due("its place", x.told(0), 4);
    Setups.dueTaken(x, 0, 'a', 0x20AC);
  }

  private static void feedMissing() {
    CountedExchange x = Setups.small();
    x.begin(1, 0, true, Cases.REFUSE);
    Cases.due("the first unit", x.feed(1, 'q'), Cases.MISSING);
    Cases.due("its place", x.told(0), 0);
    Cases.due("over", x.machine(1, 4), 2);
    x.begin(1, 0, true, Cases.REFUSE);
    feedAll(x, 1, 'a', 'b', 0xD83D);
    Cases.due("a pair", x.feed(1, 0xDE00), Cases.MISSING);
    Cases.due("its first unit", x.told(0), 2);
    Setups.dueMachine(x, 1, 2, 0, 4, 0, 2);
    x.begin(1, 0, true, Cases.REFUSE);
    feedAll(x, 1, 'a', 0xD83D);
    Cases.due("a lone high half", x.feed(1, 'b'), Cases.MISSING);
    Cases.due("its place", x.told(0), 1);
    Setups.dueTaken(x, 1, 1);
    x.begin(1, 0, true, Cases.REFUSE);
    x.feed(1, 0xD83D);
    Cases.due("two high halves", x.feed(1, 0xD83D), Cases.MISSING);
    Cases.due("the first one's place", x.told(0), 0);
    Setups.dueMachine(x, 1, 0, 0, 4, 0, 2);
    x.begin(1, 0, true, Cases.KEEP);
    feedAll(x, 1, 0xDC00, 0xDCFF, 'a');
    Cases.due("above 0xDCFF", x.feed(1, 0xDD00), Cases.MISSING);
    Cases.due("its place", x.told(0), 3);
    Setups.dueTaken(x, 1, 0, 255, 1);
    Setups.giveFallback(x, 'x', 'a', 'q');
    x.begin(1, 0, true, Cases.FALLBACK);
    feedAll(x, 1, 'b', 'b');
    Cases.due("a fallback", x.feed(1, 'x'), Cases.MISSING);
    Cases.due("its place", x.told(0), 2);
    Setups.dueTaken(x, 1, 2, 2);
  }

  // ---- promise 21: end

  private static void endReads() {
    CountedExchange x = Setups.with(Cases.TABLE, Cases.FEW, Cases.HIGH);
    x.entry(0, 0, 0x010203, 3, 'a');
    x.entry(0, 0, 2, 1, 'b');
    x.close(0);
    x.begin(0, 0, false, Cases.KEEP);
    Cases.due("nothing was fed", x.end(0), 0);
    x.begin(0, 0, false, Cases.KEEP);
    feedAll(x, 0, 1, 2);
    Setups.dueMachine(x, 0, 0, 0, 4, 2, 0);
    Cases.due("what it keeps is read", x.end(0), 2);
    Setups.dueTaken(x, 0, 0xDC01, 'b');
    x.begin(0, 1, false, Cases.SIGN);
    feedAll(x, 0, 0xF0, 0x9F, 0x98);
    Cases.due("three malformed bytes", x.end(0), 3);
    x.begin(0, 1, false, Cases.DROP);
    feedAll(x, 0, 0xF0, 0x9F, 0x98);
    Cases.due("dropped", x.end(0), 0);
    x.begin(0, 2, false, Cases.KEEP);
    feedAll(x, 0, 0xD8, 0x00, 0xDC);
    Cases.due("a high half, then 0x00DC", x.end(0), 2);
    Setups.dueTaken(x, 0, 0xDCD8, 0x00DC);
  }

  private static void endWrites() {
    CountedExchange x = Setups.shifting();
    x.begin(0, 0, true, Cases.REFUSE);
    Cases.due("nothing was fed", x.end(0), 0);
    x.begin(0, 0, true, Cases.REFUSE);
    feedAll(x, 0, 'd');
    Cases.due("the end", x.end(0), 6);
    Setups.dueTaken(x, 0, 14, 16, 0x43, 0x44, 0x45, 17);
    x.sign(1, 'b');
    x.begin(0, 0, true, Cases.SIGN);
    feedAll(x, 0, 'a', 0xD800);
    Cases.due("a high half is lone, then the end", x.end(0), 4);
    Setups.dueTaken(x, 0, 65, 14, 65, 15);
    x.begin(0, 0, true, Cases.DROP);
    feedAll(x, 0, 'b', 0xDBFF);
    Cases.due("dropped, then the end", x.end(0), 3);
    Setups.dueTaken(x, 0, 14, 65, 15);
  }

  private static void endBeyond() {
    CountedExchange x = Setups.small();
    for (int odd : Cases.ODD) {
      Cases.due("machine " + odd, x.end(odd), Cases.BEYOND);
    }
    Cases.due("machine 4", x.end(4), Cases.BEYOND);
    x.begin(3, 0, false, Cases.REFUSE);
    Cases.due("machine 3", x.end(3), 0);
  }

  private static void endNone() {
    CountedExchange x = Setups.small();
    for (int d = 0; d < 4; d++) {
      Cases.due("not begun", x.end(d), Cases.NONE);
    }
    x.begin(0, 0, false, Cases.REFUSE);
    Cases.due("end", x.end(0), 0);
    Cases.due("ended", x.end(0), Cases.NONE);
    x.begin(1, 0, false, Cases.REFUSE);
    x.feed(1, 9);
    Cases.due("over", x.end(1), Cases.NONE);
    Cases.due("still over", x.machine(1, 4), 2);
    Cases.due("still ended", x.machine(0, 4), 1);
  }

  private static void endFull() {
    CountedExchange x = deep();
    x.begin(0, 0, true, Cases.FALLBACK);
    feedAll(x, 0, 'x', 'x', 'x', 'd', 'a');
    Cases.due("300 wait", x.machine(0, 0), 300);
    Cases.due("300 are not more than 300", x.end(0), 300);
    Cases.due("ended", x.machine(0, 4), 1);
    x.begin(1, 0, true, Cases.SIGN);
    x.sign(1, 'b');
    for (int i = 0; i < 50; i++) {
      feedAll(x, 1, i % 2 == 0 ? 'd' : 'a');
    }
    feedAll(x, 1, 'b');
    Cases.due("301", x.machine(1, 0), 301);
    Cases.due("full", x.end(1), Cases.FULL);
    Setups.dueMachine(x, 1, 301, 0, 4, 0, 0);
    x.take(1);
    Cases.due("300", x.end(1), 300);
    Cases.due("ended", x.machine(1, 4), 1);
  }

  private static void endFullStays() {
    CountedExchange x = deep();
    x.begin(0, 0, true, Cases.DROP);
    for (int i = 0; i < 51; i++) {
      feedAll(x, 0, i % 2 == 0 ? 'd' : 'a');
    }
    Setups.dueMachine(x, 0, 306, 3, 4, 0, 0);
    Cases.due("full", x.end(0), Cases.FULL);
    Setups.dueMachine(x, 0, 306, 3, 4, 0, 0);
    for (int i = 0; i < 6; i++) {
      Cases.due("take " + i, x.take(0), PATTERN[i]);
    }
    x.feed(0, 0xD800);
    Setups.dueMachine(x, 0, 300, 3, 4, 1, 0);
    Cases.due("300 and the end of three", x.end(0), 303);
    Setups.dueMachine(x, 0, 303, 0, 4, 0, 1);
    for (int i = 6; i < 306; i++) {
      Cases.due("take " + i, x.take(0), PATTERN[i % 12]);
    }
    Setups.dueTaken(x, 0, 23, 22, 21);
  }

  private static void endRefused() {
    CountedExchange x = Setups.shifting();
    x.begin(0, 0, false, Cases.REFUSE);
    feedAll(x, 0, 65, 14, 28, 0x41);
    Cases.due("a kept byte", x.end(0), Cases.MALFORMED);
    Cases.due("its place", x.told(0), 3);
    Setups.dueMachine(x, 0, 1, 1, 4, 0, 2);
    x.begin(0, 0, false, Cases.REFUSE);
    feedAll(x, 0, 14, 16, 0x43, 0x44);
    Cases.due("two kept bytes", x.end(0), Cases.MALFORMED);
    Cases.due("the first one's place", x.told(0), 2);
    Setups.dueMachine(x, 0, 0, 3, 4, 0, 2);
    for (int rule : new int[] {Cases.REFUSE, Cases.KEEP, Cases.FALLBACK}) {
      x.begin(1, 0, true, rule);
      feedAll(x, 1, 'a', 'd', 0xD800);
      Cases.due("a lone high half", x.end(1), Cases.MISSING);
      Cases.due("its place", x.told(0), 2);
      Setups.dueMachine(x, 1, 6, 3, 4, 0, 2);
      Setups.dueTaken(x, 1, 65, 14, 16, 0x43, 0x44, 0x45);
    }
  }

  private static void endEnds() {
    CountedExchange x = Setups.shifting();
    x.begin(0, 0, false, Cases.REFUSE);
    feedAll(x, 0, 65, 14, 28);
    Setups.dueMachine(x, 0, 1, 1, 2, 0, 0);
    Cases.due("what is pending is no fault", x.end(0), 1);
    Setups.dueMachine(x, 0, 1, 1, 4, 0, 1);
    x.begin(0, 0, false, Cases.KEEP);
    feedAll(x, 0, 14, 16, 0x43);
    Setups.dueMachine(x, 0, 0, 3, 4, 1, 0);
    Cases.due("what is kept", x.end(0), 1);
    Setups.dueMachine(x, 0, 1, 3, 4, 0, 1);
    x.begin(0, 0, true, Cases.DROP);
    feedAll(x, 0, 'd', 0xD800);
    Setups.dueMachine(x, 0, 5, 3, 4, 1, 0);
    Cases.due("the end", x.end(0), 6);
    Setups.dueMachine(x, 0, 6, 0, 4, 0, 1);
  }

  // ---- promise 22: take

  private static void takes() {
    CountedExchange x = Setups.small();
    x.begin(0, 0, false, Cases.REFUSE);
    feedAll(x, 0, 3, 1, 2);
    Cases.due("the first", x.take(0), 'c');
    Cases.due("two wait", x.machine(0, 0), 2);
    Cases.due("the second", x.take(0), 'a');
    x.feed(0, 1);
    Cases.due("the third", x.take(0), 'b');
    Cases.due("what came later", x.take(0), 'a');
    feedAll(x, 0, 2, 9);
    Cases.due("of one that is over", x.take(0), 'b');
    x.begin(1, 0, true, Cases.REFUSE);
    x.feed(1, 'c');
    x.end(1);
    Cases.due("of one that was ended", x.take(1), 3);
  }

  private static void takeBeyond() {
    CountedExchange x = Setups.small();
    for (int odd : Cases.ODD) {
      Cases.due("machine " + odd, x.take(odd), Cases.BEYOND);
    }
    Cases.due("machine 4", x.take(4), Cases.BEYOND);
    Cases.due("machine 3", x.take(3), Cases.NONE);
  }

  private static void takeNone() {
    CountedExchange x = Setups.small();
    for (int d = 0; d < 4; d++) {
      Cases.due("not begun", x.take(d), Cases.NONE);
    }
    x.begin(0, 0, false, Cases.REFUSE);
    Cases.due("nothing was fed", x.take(0), Cases.NONE);
    x.feed(0, 1);
    Cases.due("one", x.take(0), 'a');
    Cases.due("none", x.take(0), Cases.NONE);
    Cases.due("how many wait", x.machine(0, 0), 0);
    x.end(0);
    Cases.due("ended", x.take(0), Cases.NONE);
    x.begin(1, 0, true, Cases.REFUSE);
    x.feed(1, 0xD800);
    Cases.due("what is kept does not wait", x.take(1), Cases.NONE);
  }

  // ---- promise 23: machine

  private static void machines() {
    CountedExchange x = Setups.shifting();
    x.begin(0, 0, false, Cases.KEEP);
    Setups.dueMachine(x, 0, 0, 0, 4, 0, 0);
    feedAll(x, 0, 65, 14, 16, 0x43, 0x44);
    Setups.dueMachine(x, 0, 1, 3, 4, 2, 0);
    feedAll(x, 0, 0x45, 17, 27);
    Setups.dueMachine(x, 0, 2, 0, 2, 0, 0);
    feedAll(x, 0, 0x41);
    Setups.dueMachine(x, 0, 2, 0, 2, 1, 0);
    x.end(0);
    Setups.dueMachine(x, 0, 3, 0, 4, 0, 1);
    x.begin(1, 0, true, Cases.REFUSE);
    feedAll(x, 1, 'b', 'c', 0xD800);
    Setups.dueMachine(x, 1, 5, 1, 4, 1, 0);
    x.feed(1, 'a');
    Setups.dueMachine(x, 1, 5, 1, 4, 0, 2);
    CountedExchange y = Setups.with(Cases.TABLE);
    for (int state = 1; state < 4; state++) {
      y.shift(0, 0, state, state, false);
    }
    y.close(0);
    y.begin(0, 0, false, Cases.DROP);
    for (int state = 1; state < 4; state++) {
      y.feed(0, state);
      Cases.due("pending", y.machine(0, 2), state);
      y.feed(0, 9);
      Cases.due("nothing", y.machine(0, 2), 4);
    }
  }

  private static void machineBeyond() {
    CountedExchange x = Setups.small();
    for (int odd : Cases.ODD) {
      Cases.due("machine " + odd, x.machine(odd, 0), Cases.BEYOND);
    }
    Cases.due("machine 4", x.machine(4, 0), Cases.BEYOND);
    x.begin(3, 0, false, Cases.REFUSE);
    Cases.due("machine 3", x.machine(3, 0), 0);
  }

  private static void machineNone() {
    CountedExchange x = Setups.small();
    x.begin(2, 0, false, Cases.REFUSE);
    for (int what = 0; what < 5; what++) {
      Cases.due("machine(0, " + what + ")", x.machine(0, what), Cases.NONE);
      Cases.due("machine(2, " + what + ")", x.machine(2, what), what == 2 ? 4 : 0);
    }
    x.begin(0, 1, false, Cases.REFUSE);
    Cases.due("refused, so not begun", x.machine(0, 4), Cases.NONE);
    x.end(2);
    Cases.due("ended, yet it was begun", x.machine(2, 0), 0);
  }

  private static void machineOtherWhat() {
    CountedExchange x = Setups.small();
    x.begin(0, 0, false, Cases.REFUSE);
    for (int odd : Cases.ODD) {
      Cases.due("what " + odd, x.machine(0, odd), Cases.BEYOND);
    }
    Cases.due("what 5", x.machine(0, 5), Cases.BEYOND);
    Cases.due("told(10)", x.told(10), Cases.ODD.length + 1);
  }

  static Cases cases() {
    Cases all = new Cases();
    feeding(all);
    ending(all);
    return all;
  }

  private static void feeding(Cases all) {
    all.section("Promise 19")
        .say("Machine d begins anew, by page p: it writes, or reads, with a rule; nothing waits: 0.",
            MachinesTest::begins)
        .say("BEYOND: no such machine, or no such page.", MachinesTest::beginNoMachineOrPage)
        .say("OPEN.", MachinesTest::beginOpen)
        .say("BEYOND: rule (as of decode() and encode()).", MachinesTest::beginRule);
    all.section("Promise 20")
        .say("A value comes to a machine: how many wait.", MachinesTest::feedComes, MachinesTest::feedRound)
        .say("BEYOND: no such machine.", MachinesTest::feedNoMachine)
        .say("NONE: it was not begun, was ended, or is OVER.", MachinesTest::feedNone)
        .say("BEYOND: v is no byte (no unit, of one that writes).", MachinesTest::feedNoValue)
        .say("FULL: more than 300 wait.", MachinesTest::feedFull, MachinesTest::feedFullReading)
        .say("MALFORMED, MISSING: it is OVER then, and told(0) is the place, among all that was fed, of the byte, or "
            + "(first) unit.", MachinesTest::feedMalformed, MachinesTest::feedMissing);
  }

  private static void ending(Cases all) {
    all.section("Promise 21")
        .say("No more comes: what it keeps is read as it is (a high half is lone), and of one that writes the end: how "
            + "many wait.", MachinesTest::endReads, MachinesTest::endWrites)
        .say("BEYOND.", MachinesTest::endBeyond)
        .say("NONE as of feed().", MachinesTest::endNone)
        .say("FULL as of feed().", MachinesTest::endFull)
        .say("MALFORMED, MISSING as of feed() (it is OVER then).", MachinesTest::endRefused)
        .say("Otherwise it is ended, but for FULL: it keeps nothing, nothing is pending, of one that writes the state "
            + "is 0.", MachinesTest::endFullStays, MachinesTest::endEnds);
    all.section("Promise 22")
        .say("The first value that waits is taken.", MachinesTest::takes)
        .say("BEYOND: no such machine.", MachinesTest::takeBeyond)
        .say("NONE: nothing waits.", MachinesTest::takeNone);
    all.section("Promise 23")
        .say("Of a machine that was begun: what = 0 how many wait, 1 its state, 2 what is pending (4: nothing), 3 how "
            + "many bytes (or units) it keeps, 4: 0 it goes on, 1 it was ended, 2 it is OVER.", MachinesTest::machines)
        .say("BEYOND: no such machine.", MachinesTest::machineBeyond)
        .say("NONE: it was not begun.", MachinesTest::machineNone)
        .say("BEYOND: another what.", MachinesTest::machineOtherWhat);
  }

  public static void main(String[] args) {
    cases().run();
  }
}
