import java.util.ArrayList;
import java.util.LinkedHashMap;
import java.util.List;
import java.util.Map;
import java.util.function.Consumer;
import java.util.function.Supplier;
import java.util.function.ToLongFunction;

/** The sentences under 'Terms' on findings: their numbers, their order, and that they change nothing. */
public final class FindingsTest {
  private FindingsTest() { }

  private static void numbers() {
    CountedExchange x = Setups.with(Cases.FEW, Cases.TABLE, Cases.TABLE);
    Cases.due("BEYOND", x.page(4), -1);
    Cases.due("NONE", x.result(0), -2);
    Cases.due("KIND", x.close(0), -3);
    x.close(1);
    Cases.due("CLOSED", x.close(1), -4);
    Cases.due("OPEN", x.decode(2, 0), -5);
    x.shift(2, 0, 1, 1, true);
    Cases.due("THERE", x.shift(2, 0, 1, 2, true), -7);
    Cases.due("BAD", x.close(2), -8);
    x.bytesIn(0xFF, 1);
    Cases.due("MALFORMED", x.decode(0, 0), -9);
    x.unitsIn('a', 1);
    Cases.due("MISSING", x.encode(1, 0), -10);
    Cases.due("LOOP", x.fallback('a'), -11);
    Setups.giveFallback(x, 'x', 'a', 'a', 'a', 'a');
    Setups.giveFallback(x, 'y', 'x', 'x', 'x', 'x');
    Cases.due("LONG", Setups.giveFallback(x, 'z', 'y', 'a'), -12);
    Cases.due("SUM", x.receive(), -13);
    for (int p = 3; p < 10; p++) {
      x.page(Cases.HIGH);
    }
    Cases.due("FULL", x.page(Cases.HIGH), -6);
    Cases.due("told(10)", x.told(10), 13);
  }

  // ---- the order in which they are asked

  /** Pages 0 to 9: a closed table, an open one with two entries and ten shifts, FEW, and seven open ones. */
  private static CountedExchange crowded() {
    CountedExchange x = Setups.shifting();
    x.page(Cases.TABLE);
    x.page(Cases.FEW);
    for (int i = 0; i < 10; i++) {
      x.shift(1, 0, 10 + i, 1, true);
    }
    for (int p = 3; p < 10; p++) {
      x.page(Cases.TABLE);
    }
    return x;
  }

  private static void orderOfPages() {
    CountedExchange x = crowded();
    Cases.due("page: BEYOND, FULL", x.page(4), Cases.BEYOND);
    Cases.due("derive: BEYOND, FULL", x.derive(10), Cases.BEYOND);
    Cases.due("derive: KIND, FULL", x.derive(2), Cases.KIND);
    Cases.due("derive: OPEN, FULL", x.derive(1), Cases.OPEN);
    Cases.due("entry: KIND, BEYOND", x.entry(2, 4, -1, 0, -9999999), Cases.KIND);
    Cases.due("entry: CLOSED, BEYOND", x.entry(0, 4, -1, 0, -9999999), Cases.CLOSED);
    Cases.due("shift: KIND, BEYOND", x.shift(2, 4, 256, 4, true), Cases.KIND);
    Cases.due("shift: CLOSED, BEYOND", x.shift(0, 4, 256, 4, true), Cases.CLOSED);
    Cases.due("shift: CLOSED, THERE", x.shift(0, 0, 14, 1, true), Cases.CLOSED);
    Cases.due("shift: BEYOND, THERE", x.shift(1, 0, 10, 0, true), Cases.BEYOND);
    Cases.due("shift: BEYOND, THERE", x.shift(1, 0, 10, 4, true), Cases.BEYOND);
    Cases.due("shift: BEYOND, FULL", x.shift(1, 0, 256, 1, true), Cases.BEYOND);
    Cases.due("shift: THERE, FULL", x.shift(1, 0, 19, 2, false), Cases.THERE);
    Cases.due("drop: KIND, BEYOND", x.drop(2, 4, -1, 0), Cases.KIND);
    Cases.due("drop: CLOSED, BEYOND", x.drop(0, 4, -1, 0), Cases.CLOSED);
    Cases.due("drop: CLOSED, NONE", x.drop(0, 0, 99, 1), Cases.CLOSED);
    Cases.due("drop: BEYOND, NONE", x.drop(1, 0, 256, 1), Cases.BEYOND);
    Cases.due("close: KIND, CLOSED", x.close(2), Cases.KIND);
    Cases.due("code: OPEN, BEYOND", x.code(1, -1), Cases.OPEN);
    Cases.due("code: BEYOND, NONE", x.code(0, 0xD800), Cases.BEYOND);
    Cases.due("receive: FULL, SUM", x.receive(), Cases.FULL);
    Cases.due("receive: FULL, BAD", Setups.receive(x, 1, 1), Cases.FULL);
    for (int i = 0; i < 100; i++) {
      x.entry(1, 0, i, 1, i);
    }
    Cases.due("entry: BEYOND, FULL", x.entry(1, 0, 100, 1, 0xD800), Cases.BEYOND);
    Cases.due("entry: BEYOND, FULL", x.entry(1, 4, 100, 1, 100), Cases.BEYOND);
    Cases.due("entry: BEYOND, FULL", x.entry(1, 0, 256, 1, 100), Cases.BEYOND);
    Cases.due("entry: BEYOND, FULL", x.entry(1, 0, 100, 4, 100), Cases.BEYOND);
  }

  private static void orderOfRows() {
    CountedExchange x = Setups.wide();
    x.page(Cases.TABLE);
    x.page(Cases.FEW);
    Setups.putBytes(x, Setups.times(1000, 0xFF));
    Cases.due("bytesIn: BEYOND, FULL", x.bytesIn(1, 9), Cases.BEYOND);
    Cases.due("bytesIn: BEYOND, FULL", x.bytesIn(1, Integer.MAX_VALUE), Cases.BEYOND);
    Cases.due("decode: OPEN, BEYOND", x.decode(1, 4), Cases.OPEN);
    Cases.due("decode: BEYOND, MALFORMED", x.decode(0, 4), Cases.BEYOND);
    Cases.due("decode: OPEN, MALFORMED", x.decode(1, 0), Cases.OPEN);
    x.decode(2, Cases.KEEP);
    Cases.due("fill: 1000", x.fill(3), 1000);
    Cases.due("unitsIn: BEYOND, FULL", x.unitsIn(1, 5), Cases.BEYOND);
    Cases.due("encode: OPEN, BEYOND", x.encode(1, 5), Cases.OPEN);
    Cases.due("encode: BEYOND, MISSING", x.encode(0, 5), Cases.BEYOND);
    Cases.due("encode: OPEN, MISSING", x.encode(1, 0), Cases.OPEN);
    Cases.due("lengths: OPEN, BEYOND", x.lengths(1, 2), Cases.OPEN);
    Cases.due("lengths: OPEN, MISSING", x.lengths(1, 0), Cases.OPEN);
    Cases.due("lengths: BEYOND, MISSING", x.lengths(0, 2), Cases.BEYOND);
    Cases.due("transcode: BEYOND, OPEN", x.transcode(1, 0, 3, 0), Cases.BEYOND);
    Cases.due("transcode: BEYOND, OPEN", x.transcode(3, 0, 1, 0), Cases.BEYOND);
    Cases.due("transcode: OPEN, BEYOND", x.transcode(1, 4, 0, 5), Cases.OPEN);
    Cases.due("transcode: OPEN, BEYOND", x.transcode(0, 4, 1, 5), Cases.OPEN);
    Cases.due("transcode: BEYOND, MALFORMED", x.transcode(0, 0, 0, 5), Cases.BEYOND);
    Cases.due("transcode: OPEN, MALFORMED", x.transcode(0, 0, 1, 0), Cases.OPEN);
    Cases.due("transcode: MALFORMED, MISSING", x.transcode(2, 0, 0, 0), Cases.MALFORMED);
    Setups.putUnits(x, Setups.times(125, 'x'));
    x.encode(0, Cases.FALLBACK);
    Cases.due("fill: NONE, FULL", x.fill(3), Cases.NONE);
    Cases.due("receive: SUM, BAD", x.receive(), Cases.SUM);
    Cases.due("differ: BEYOND, OPEN", x.differ(1, 3, 0), Cases.BEYOND);
    Cases.due("differ: OPEN, BEYOND", x.differ(0, 1, -1), Cases.OPEN);
    Cases.due("misread: BEYOND, OPEN", x.misread(1, 3), Cases.BEYOND);
    Cases.due("misread: BEYOND, OPEN", x.misread(3, 1), Cases.BEYOND);
    Cases.due("coverage: OPEN, BEYOND", x.coverage(1, 5, 4), Cases.OPEN);
  }

  private static void orderOfFallbacks() {
    CountedExchange x = new CountedExchange();
    Setups.giveFallback(x, 'x', 'a', 'a', 'a', 'a');
    Setups.giveFallback(x, 'y', 'x', 'x', 'x', 'x');
    Cases.due("LOOP, LONG", Setups.giveFallback(x, 'a', 'y', 'y'), Cases.LOOP);
    Cases.due("LOOP, LONG", Setups.giveFallback(x, 'z', 'y', 'y', 'z'), Cases.LOOP);
    for (int i = 0; i < 38; i++) {
      Setups.giveFallback(x, 1000 + i, 'b');
    }
    Cases.due("told(9)", x.told(9), 40);
    Cases.due("FULL, LOOP", Setups.giveFallback(x, 'z', 'z'), Cases.FULL);
    Cases.due("FULL, LONG", Setups.giveFallback(x, 'z', 'y', 'y'), Cases.FULL);
    Cases.due("BAD, FULL", Setups.giveFallback(x, 'z', 0xD800), Cases.BAD);
    Cases.due("BAD, LOOP", Setups.giveFallback(x, 'x', 'x', 'a', 'a', 'a', 'a'), Cases.BAD);
    Cases.due("BEYOND, BAD", x.fallback(0xD800), Cases.BEYOND);
    Setups.putUnits(x, 'a');
    Cases.due("BEYOND, FULL", x.fallback(0x110000), Cases.BEYOND);
  }

  private static void orderOfMachines() {
    CountedExchange x = Setups.with(Cases.HIGH, Cases.TABLE);
    Cases.due("begin: BEYOND, OPEN", x.begin(4, 1, true, 0), Cases.BEYOND);
    Cases.due("begin: OPEN, BEYOND", x.begin(0, 1, true, 5), Cases.OPEN);
    Cases.due("begin: OPEN, BEYOND", x.begin(0, 1, false, 4), Cases.OPEN);
    Cases.due("feed: BEYOND, NONE", x.feed(4, 1), Cases.BEYOND);
    Cases.due("feed: NONE, BEYOND", x.feed(0, -1), Cases.NONE);
    Cases.due("end: BEYOND, NONE", x.end(4), Cases.BEYOND);
    Cases.due("take: BEYOND, NONE", x.take(4), Cases.BEYOND);
    Cases.due("machine: BEYOND, NONE", x.machine(4, 0), Cases.BEYOND);
    Cases.due("machine: NONE, BEYOND", x.machine(0, 5), Cases.NONE);
    x.begin(0, 0, true, Cases.REFUSE);
    for (int i = 0; i < 151; i++) {
      x.feed(0, 'a');
    }
    Cases.due("302 wait", x.machine(0, 0), 302);
    Cases.due("feed: BEYOND, FULL", x.feed(0, 65536), Cases.BEYOND);
    Cases.due("feed: FULL, MISSING", x.feed(0, 0xDC00), Cases.FULL);
    x.take(0);
    x.take(0);
    x.feed(0, 0xD800);
    Cases.due("300 wait, one is kept", x.machine(0, 3), 1);
    Cases.due("feed: MISSING", x.feed(0, 0xD800), Cases.MISSING);
    Cases.due("feed: NONE, BEYOND", x.feed(0, 65536), Cases.NONE);
    x.begin(1, 0, true, Cases.REFUSE);
    for (int i = 0; i < 151; i++) {
      x.feed(1, 'a');
    }
    Cases.due("end: FULL", x.end(1), Cases.FULL);
    x.begin(1, 0, true, Cases.REFUSE);
    x.end(1);
    Cases.due("feed: NONE, BEYOND", x.feed(1, -1), Cases.NONE);
  }

  // ---- nothing changes

  /** The name of a call, the finding that it is due, what comes ahead of it, and the call. */
  private record Refusal(String name, int finding, Consumer<CountedExchange> before,
      ToLongFunction<CountedExchange> act) { }

  /** An object with something of everything; told(0) is 1, told(1) to told(3) are 3, 1, 0. */
  private static CountedExchange busy() {
    CountedExchange x = Setups.shifting();
    x.page(Cases.TABLE);
    x.entry(1, 0, 1, 1, 'a');
    x.entry(1, 0, 0x0203, 2, 'b');
    x.shift(1, 0, 9, 1, true);
    x.close(1);
    x.page(Cases.FEW);
    x.sign(0, 's');
    x.sign(1, 'a');
    Setups.giveFallback(x, 'x', 'b', 'c');
    Setups.giveFallback(x, 'y', 'x', 'a');
    x.begin(0, 0, false, Cases.KEEP);
    x.feed(0, 65);
    x.feed(0, 14);
    x.feed(0, 28);
    x.feed(0, 0x41);
    x.begin(1, 0, true, Cases.SIGN);
    x.feed(1, 'b');
    x.feed(1, 0xD83D);
    x.begin(2, 2, false, Cases.REFUSE);
    x.feed(2, 'q');
    x.end(2);
    Setups.putBytes(x, 65, 9, 65);
    x.decode(0, Cases.REFUSE);
    x.decode(0, Cases.KEEP);
    Setups.putUnits(x, 'a', 'c', 0xDC41);
    return x;
  }

  /** All that can be seen of an object, from what is told to what its rows, pages and machines do next. */
  private static Map<String, Long> seen(CountedExchange x) {
    Map<String, Long> all = new LinkedHashMap<>();
    for (int what = 0; what < 10; what++) {
      see(all, "told(" + what + ")", x.told(what));
    }
    int pages = x.told(4);
    for (int p = 0; p < pages && p < 4; p++) {
      for (int what = 0; what < 4; what++) {
        see(all, "size(" + p + ", " + what + ")", x.size(p, what));
      }
    }
    seeResult(all, "the result", x);
    for (int d = 0; d < 4; d++) {
      for (int what = 0; what < 5; what++) {
        see(all, "machine " + d + ", " + what, x.machine(d, what));
      }
    }
    see(all, "faults", x.faults(0));
    see(all, "fewest", x.lengths(2, 0));
    see(all, "its place", x.told(0));
    see(all, "coverage", x.coverage(0, 0, 255));
    see(all, "decode", x.decode(0, Cases.SIGN));
    seeResult(all, "decoded", x);
    see(all, "encode", x.encode(0, Cases.SIGN));
    seeResult(all, "encoded", x);
    for (int d = 0; d < 4; d++) {
      see(all, "machine " + d + ", feed", x.feed(d, 0x42));
      see(all, "machine " + d + ", end", x.end(d));
      for (int i = 0; i < 6; i++) {
        see(all, "machine " + d + ", take " + i, x.take(d));
      }
      see(all, "machine " + d + ", then", x.machine(d, 4));
    }
    see(all, "machine 3, the place then", x.told(0));
    x.fill(1);
    x.unitsIn('y', 1);
    see(all, "fallback", x.encode(0, Cases.FALLBACK));
    seeResult(all, "by fallbacks", x);
    see(all, "close(1)", x.close(1));
    see(all, "a shift", x.shift(1, 1, 1, 0, true));
    see(all, "an entry", x.entry(1, 0, 250, 1, 'z'));
    see(all, "close(1)", x.close(1));
    see(all, "send(1)", x.send(1));
    seeResult(all, "sent", x);
    see(all, "fill(2)", x.fill(2));
    see(all, "receive()", x.receive());
    see(all, "size of what came", x.size(x.told(4) - 1, 2));
    see(all, "page", x.page(Cases.TABLE));
    see(all, "first sign", x.sign(0, 1));
    see(all, "second sign", x.sign(1, 1));
    return all;
  }

  private static void seeResult(Map<String, Long> all, String name, CountedExchange x) {
    int many = x.told(7);
    see(all, name + " has", many);
    see(all, name + " is of", x.told(8));
    for (int i = 0; i < many && i < 12; i++) {
      see(all, name + " " + i, x.result(i));
    }
    see(all, name + " ends with", x.result(many - 1));
  }

  private static void see(Map<String, Long> all, String name, long answer) {
    all.put(name + (all.containsKey(name) ? " again" + all.size() : ""), answer);
  }

  /** Two objects go the same way, one of them by a refused call: all that is seen then is the same. */
  private static void dueNothing(Supplier<CountedExchange> made, Refusal refusal, String... told) {
    CountedExchange x = made.get();
    CountedExchange y = made.get();
    refusal.before.accept(x);
    refusal.before.accept(y);
    int findings = x.told(10);
    Cases.due(refusal.name, refusal.act.applyAsLong(x), refusal.finding);
    Cases.due(refusal.name + ": told(10)", x.told(10), findings + 1);
    Map<String, Long> got = seen(x);
    Map<String, Long> want = seen(y);
    Cases.due(refusal.name + ": what is seen", got.size(), want.size());
    for (Map.Entry<String, Long> each : want.entrySet()) {
      boolean mayChange = false;
      for (String name : told) {
        mayChange |= each.getKey().startsWith(name);
      }
      if (!mayChange) {
        long answer = got.getOrDefault(each.getKey(), Long.MIN_VALUE);
        Cases.due(refusal.name + ": " + each.getKey(), answer, each.getValue());
      }
    }
  }

  private static void nothing(CountedExchange x) { }

  private static void tenPages(CountedExchange x) {
    for (int p = 3; p < 10; p++) {
      x.page(Cases.HIGH);
    }
  }

  private static void hundredEntries(CountedExchange x) {
    for (int i = 2; i < 100; i++) {
      x.entry(1, 0, 100 + i, 1, 1000 + i);
    }
  }

  private static void tenShifts(CountedExchange x) {
    for (int i = 1; i < 10; i++) {
      x.shift(1, 0, 30 + i, 1, true);
    }
  }

  private static void thousandBytes(CountedExchange x) {
    Setups.putBytes(x, Setups.times(1000, 65));
  }

  private static void thousandUnits(CountedExchange x) {
    thousandBytes(x);
    x.decode(0, Cases.REFUSE);
    x.fill(3);
  }

  /** 32 units of 64 bytes each: more than the bytes hold, less than a result. */
  private static void longResult(CountedExchange x) {
    Setups.giveFallback(x, 'w', 'd', 'a', 'd', 'a');
    Setups.giveFallback(x, 'v', 'w', 'w', 'w', 'w');
    Setups.putUnits(x, Setups.times(32, 'v'));
    x.encode(0, Cases.FALLBACK);
  }

  private static void manyUnits(CountedExchange x) {
    longResult(x);
    Setups.putUnits(x, Setups.times(200, 'v'));
  }

  private static void manyBytes(CountedExchange x) {
    longResult(x);
    Setups.putBytes(x, Setups.times(200, 'v'));
  }

  private static void fortyFallbacks(CountedExchange x) {
    for (int i = 2; i < 40; i++) {
      Setups.giveFallback(x, 1000 + i, 'a');
    }
    Setups.putUnits(x, 'a', 'c');
  }

  private static void manyWait(CountedExchange x) {
    longResult(x);
    x.begin(3, 0, true, Cases.FALLBACK);
    for (int i = 0; i < 6; i++) {
      x.feed(3, 'v');
    }
  }

  private static void openOnly(CountedExchange x) {
    x.bytesIn(1, 1);
  }

  private static List<Refusal> ofPages() {
    List<Refusal> all = new ArrayList<>();
    all.add(new Refusal("page(4)", Cases.BEYOND, FindingsTest::nothing, x -> x.page(4)));
    all.add(new Refusal("page, full", Cases.FULL, FindingsTest::tenPages, x -> x.page(Cases.TABLE)));
    all.add(new Refusal("derive(3)", Cases.BEYOND, FindingsTest::nothing, x -> x.derive(3)));
    all.add(new Refusal("derive(2)", Cases.KIND, FindingsTest::nothing, x -> x.derive(2)));
    all.add(new Refusal("derive(1)", Cases.OPEN, FindingsTest::nothing, x -> x.derive(1)));
    all.add(new Refusal("derive, full", Cases.FULL, FindingsTest::tenPages, x -> x.derive(0)));
    all.add(new Refusal("entry, page", Cases.BEYOND, FindingsTest::nothing, x -> x.entry(3, 0, 1, 1, 'z')));
    all.add(new Refusal("entry, kind", Cases.KIND, FindingsTest::nothing, x -> x.entry(2, 0, 1, 1, 'z')));
    all.add(new Refusal("entry, closed", Cases.CLOSED, FindingsTest::nothing, x -> x.entry(0, 0, 65, 1, 'z')));
    all.add(new Refusal("entry, state", Cases.BEYOND, FindingsTest::nothing, x -> x.entry(1, 4, 1, 1, 'z')));
    all.add(new Refusal("entry, n", Cases.BEYOND, FindingsTest::nothing, x -> x.entry(1, 0, 1, 4, 'z')));
    all.add(new Refusal("entry, bytes", Cases.BEYOND, FindingsTest::nothing, x -> x.entry(1, 0, 257, 1, 'z')));
    all.add(new Refusal("entry, code", Cases.BEYOND, FindingsTest::nothing, x -> x.entry(1, 0, 1, 1, 0xD800)));
    all.add(new Refusal("entry, full", Cases.FULL, FindingsTest::hundredEntries, x -> x.entry(1, 0, 99, 1, 'z')));
    all.add(new Refusal("shift, page", Cases.BEYOND, FindingsTest::nothing, x -> x.shift(3, 0, 1, 2, true)));
    all.add(new Refusal("shift, kind", Cases.KIND, FindingsTest::nothing, x -> x.shift(2, 0, 1, 2, true)));
    all.add(new Refusal("shift, closed", Cases.CLOSED, FindingsTest::nothing, x -> x.shift(0, 0, 9, 1, true)));
    all.add(new Refusal("shift, same", Cases.BEYOND, FindingsTest::nothing, x -> x.shift(1, 2, 1, 2, true)));
    all.add(new Refusal("shift, byte", Cases.BEYOND, FindingsTest::nothing, x -> x.shift(1, 0, 256, 2, true)));
    all.add(new Refusal("shift, there", Cases.THERE, FindingsTest::nothing, x -> x.shift(1, 0, 9, 2, false)));
    all.add(new Refusal("shift, full", Cases.FULL, FindingsTest::tenShifts, x -> x.shift(1, 0, 99, 2, false)));
    all.add(new Refusal("drop, page", Cases.BEYOND, FindingsTest::nothing, x -> x.drop(3, 0, 1, 1)));
    all.add(new Refusal("drop, kind", Cases.KIND, FindingsTest::nothing, x -> x.drop(2, 0, 1, 1)));
    all.add(new Refusal("drop, closed", Cases.CLOSED, FindingsTest::nothing, x -> x.drop(0, 0, 65, 1)));
    all.add(new Refusal("drop, bytes", Cases.BEYOND, FindingsTest::nothing, x -> x.drop(1, 0, 257, 1)));
    all.add(new Refusal("drop, none", Cases.NONE, FindingsTest::nothing, x -> x.drop(1, 0, 2, 1)));
    all.add(new Refusal("close, page", Cases.BEYOND, FindingsTest::nothing, x -> x.close(3)));
    all.add(new Refusal("close, kind", Cases.KIND, FindingsTest::nothing, x -> x.close(2)));
    all.add(new Refusal("close, closed", Cases.CLOSED, FindingsTest::nothing, x -> x.close(0)));
    all.add(new Refusal("close, bad", Cases.BAD, FindingsTest::nothing, x -> x.close(1)));
    all.add(new Refusal("size, page", Cases.BEYOND, FindingsTest::nothing, x -> x.size(3, 0)));
    all.add(new Refusal("size, what", Cases.BEYOND, FindingsTest::nothing, x -> x.size(0, 4)));
    all.add(new Refusal("code, page", Cases.BEYOND, FindingsTest::nothing, x -> x.code(3, 'a')));
    all.add(new Refusal("code, open", Cases.OPEN, FindingsTest::nothing, x -> x.code(1, 'a')));
    all.add(new Refusal("code, point", Cases.BEYOND, FindingsTest::nothing, x -> x.code(0, -1)));
    all.add(new Refusal("code, none", Cases.NONE, FindingsTest::nothing, x -> x.code(0, 'q')));
    return all;
  }

  private static List<Refusal> ofRows() {
    List<Refusal> all = new ArrayList<>();
    all.add(new Refusal("bytesIn, n", Cases.BEYOND, FindingsTest::nothing, x -> x.bytesIn(1, 9)));
    all.add(new Refusal("bytesIn, full", Cases.FULL, FindingsTest::thousandBytes, x -> x.bytesIn(1, 1)));
    all.add(new Refusal("unitsIn, n", Cases.BEYOND, FindingsTest::nothing, x -> x.unitsIn(1, 5)));
    all.add(new Refusal("unitsIn, full", Cases.FULL, FindingsTest::thousandUnits, x -> x.unitsIn(1, 1)));
    all.add(new Refusal("fill, what", Cases.BEYOND, FindingsTest::nothing, x -> x.fill(4)));
    all.add(new Refusal("fill, none", Cases.NONE, FindingsTest::nothing, x -> x.fill(2)));
    all.add(new Refusal("fill, full", Cases.FULL, FindingsTest::longResult, x -> x.fill(2)));
    all.add(new Refusal("decode, page", Cases.BEYOND, FindingsTest::nothing, x -> x.decode(3, 1)));
    all.add(new Refusal("decode, open", Cases.OPEN, FindingsTest::nothing, x -> x.decode(1, 1)));
    all.add(new Refusal("decode, rule", Cases.BEYOND, FindingsTest::nothing, x -> x.decode(0, 4)));
    all.add(new Refusal("decode, malformed", Cases.MALFORMED, FindingsTest::nothing, x -> x.decode(0, 0)));
    all.add(new Refusal("encode, page", Cases.BEYOND, FindingsTest::nothing, x -> x.encode(3, 1)));
    all.add(new Refusal("encode, open", Cases.OPEN, FindingsTest::nothing, x -> x.encode(1, 1)));
    all.add(new Refusal("encode, rule", Cases.BEYOND, FindingsTest::nothing, x -> x.encode(0, 5)));
    all.add(new Refusal("encode, missing", Cases.MISSING, x -> x.encode(0, 0), x -> x.encode(0, 0)));
    all.add(new Refusal("encode, full", Cases.FULL, FindingsTest::manyUnits, x -> x.encode(0, 4)));
    all.add(new Refusal("transcode, page", Cases.BEYOND, FindingsTest::nothing, x -> x.transcode(3, 1, 0, 1)));
    all.add(new Refusal("transcode, page", Cases.BEYOND, FindingsTest::nothing, x -> x.transcode(0, 1, 3, 1)));
    all.add(new Refusal("transcode, open", Cases.OPEN, FindingsTest::nothing, x -> x.transcode(0, 1, 1, 1)));
    all.add(new Refusal("transcode, rule", Cases.BEYOND, FindingsTest::nothing, x -> x.transcode(0, 4, 0, 1)));
    all.add(new Refusal("transcode, by", Cases.BEYOND, FindingsTest::nothing, x -> x.transcode(0, 1, 0, 5)));
    all.add(new Refusal("transcode, malformed", Cases.MALFORMED, FindingsTest::nothing, x -> x.transcode(0, 0, 0, 1)));
    all.add(new Refusal("transcode, missing", Cases.MISSING, FindingsTest::nothing, x -> x.transcode(0, 3, 0, 0)));
    all.add(new Refusal("transcode, full", Cases.FULL, FindingsTest::manyBytes, x -> x.transcode(2, 0, 0, 4)));
    all.add(new Refusal("result", Cases.NONE, FindingsTest::nothing, x -> x.result(3)));
    all.add(new Refusal("sign, which", Cases.BEYOND, FindingsTest::nothing, x -> x.sign(2, 'z')));
    all.add(new Refusal("sign, point", Cases.BEYOND, FindingsTest::nothing, x -> x.sign(0, 0xD800)));
    all.add(new Refusal("sign, second", Cases.BEYOND, FindingsTest::nothing, x -> x.sign(1, 0xD800)));
    all.add(new Refusal("fallback, point", Cases.BEYOND, FindingsTest::nothing, x -> x.fallback(0xD800)));
    all.add(new Refusal("fallback, bad", Cases.BAD, FindingsTest::nothing, x -> x.fallback('z')));
    all.add(new Refusal("fallback, full", Cases.FULL, FindingsTest::fortyFallbacks, x -> x.fallback('z')));
    all.add(new Refusal("fallback, loop", Cases.LOOP, x -> Setups.putUnits(x, 'y'), x -> x.fallback('x')));
    all.add(new Refusal("fallback, loop of none", Cases.LOOP, x -> Setups.putUnits(x, 'y'), x -> x.fallback('c')));
    all.add(new Refusal("fallback, long", Cases.LONG, x -> {
      longResult(x);
      Setups.putUnits(x, 'v', 'a');
    }, x -> x.fallback('y')));
    return all;
  }

  private static List<Refusal> ofMachines() {
    List<Refusal> all = new ArrayList<>();
    all.add(new Refusal("begin, machine", Cases.BEYOND, FindingsTest::nothing, x -> x.begin(4, 0, true, 0)));
    all.add(new Refusal("begin, page", Cases.BEYOND, FindingsTest::nothing, x -> x.begin(0, 3, true, 0)));
    all.add(new Refusal("begin, open", Cases.OPEN, FindingsTest::nothing, x -> x.begin(0, 1, true, 0)));
    all.add(new Refusal("begin, rule", Cases.BEYOND, FindingsTest::nothing, x -> x.begin(0, 0, false, 4)));
    all.add(new Refusal("begin, rule", Cases.BEYOND, FindingsTest::nothing, x -> x.begin(1, 0, true, 5)));
    all.add(new Refusal("feed, machine", Cases.BEYOND, FindingsTest::nothing, x -> x.feed(4, 1)));
    all.add(new Refusal("feed, not begun", Cases.NONE, FindingsTest::nothing, x -> x.feed(3, 1)));
    all.add(new Refusal("feed, ended", Cases.NONE, FindingsTest::nothing, x -> x.feed(2, 1)));
    all.add(new Refusal("feed, over", Cases.NONE, x -> {
      x.begin(3, 0, true, 0);
      x.feed(3, 'b');
      x.feed(3, 'q');
    }, x -> x.feed(3, 'b')));
    all.add(new Refusal("feed, no byte", Cases.BEYOND, FindingsTest::nothing, x -> x.feed(0, 256)));
    all.add(new Refusal("feed, no unit", Cases.BEYOND, FindingsTest::nothing, x -> x.feed(1, 65536)));
    all.add(new Refusal("feed, full", Cases.FULL, FindingsTest::manyWait, x -> x.feed(3, 'q')));
    all.add(new Refusal("end, machine", Cases.BEYOND, FindingsTest::nothing, x -> x.end(4)));
    all.add(new Refusal("end, not begun", Cases.NONE, FindingsTest::nothing, x -> x.end(3)));
    all.add(new Refusal("end, ended", Cases.NONE, FindingsTest::nothing, x -> x.end(2)));
    all.add(new Refusal("end, full", Cases.FULL, FindingsTest::manyWait, x -> x.end(3)));
    all.add(new Refusal("take, machine", Cases.BEYOND, FindingsTest::nothing, x -> x.take(4)));
    all.add(new Refusal("take, none", Cases.NONE, FindingsTest::nothing, x -> x.take(3)));
    all.add(new Refusal("take, all taken", Cases.NONE, x -> x.take(2), x -> x.take(2)));
    all.add(new Refusal("machine, machine", Cases.BEYOND, FindingsTest::nothing, x -> x.machine(4, 0)));
    all.add(new Refusal("machine, none", Cases.NONE, FindingsTest::nothing, x -> x.machine(3, 0)));
    all.add(new Refusal("machine, what", Cases.BEYOND, FindingsTest::nothing, x -> x.machine(0, 5)));
    return all;
  }

  private static List<Refusal> ofOthers() {
    List<Refusal> all = new ArrayList<>();
    all.add(new Refusal("coverage, page", Cases.BEYOND, FindingsTest::nothing, x -> x.coverage(3, 0, 1)));
    all.add(new Refusal("coverage, open", Cases.OPEN, FindingsTest::nothing, x -> x.coverage(1, 0, 1)));
    all.add(new Refusal("coverage, to", Cases.BEYOND, FindingsTest::nothing, x -> x.coverage(0, 1, 0)));
    all.add(new Refusal("differ, none", Cases.NONE, FindingsTest::nothing, x -> x.differ(0, 0, 0)));
    all.add(new Refusal("differ, page", Cases.BEYOND, FindingsTest::nothing, x -> x.differ(0, 3, 0)));
    all.add(new Refusal("differ, open", Cases.OPEN, FindingsTest::nothing, x -> x.differ(0, 1, 0)));
    all.add(new Refusal("differ, from", Cases.BEYOND, FindingsTest::nothing, x -> x.differ(0, 2, 0x110000)));
    all.add(new Refusal("misread, page", Cases.BEYOND, FindingsTest::nothing, x -> x.misread(0, 3)));
    all.add(new Refusal("misread, open", Cases.OPEN, FindingsTest::nothing, x -> x.misread(0, 1)));
    all.add(new Refusal("faults, page", Cases.BEYOND, FindingsTest::nothing, x -> x.faults(3)));
    all.add(new Refusal("faults, open", Cases.OPEN, FindingsTest::nothing, x -> x.faults(1)));
    all.add(new Refusal("lengths, page", Cases.BEYOND, FindingsTest::nothing, x -> x.lengths(3, 0)));
    all.add(new Refusal("lengths, open", Cases.OPEN, FindingsTest::nothing, x -> x.lengths(1, 0)));
    all.add(new Refusal("lengths, what", Cases.BEYOND, FindingsTest::nothing, x -> x.lengths(0, 2)));
    all.add(new Refusal("lengths, missing", Cases.MISSING, x -> x.lengths(0, 0), x -> x.lengths(0, 0)));
    all.add(new Refusal("send, page", Cases.BEYOND, FindingsTest::nothing, x -> x.send(3)));
    all.add(new Refusal("send, kind", Cases.KIND, FindingsTest::nothing, x -> x.send(2)));
    all.add(new Refusal("send, open", Cases.OPEN, FindingsTest::nothing, x -> x.send(1)));
    all.add(new Refusal("receive, full", Cases.FULL, FindingsTest::tenPages, x -> x.receive()));
    all.add(new Refusal("receive, sum", Cases.SUM, FindingsTest::nothing, x -> x.receive()));
    int[][] bad = {{2, 0, 1, 65, 0, 0, 97, 1, 0}, {1, 1, 1, 65, 0, 0, 97, 1, 0}, {0, 1, 0, 14, 1, 1},
        {1, 0, 1, 65, 0, 0, 97, 1, 2, 0, 14, 1, 0, 0, 14, 1, 0}};
    for (int[] row : bad) {
      all.add(new Refusal("receive, bad", Cases.BAD, x -> Setups.receive(x, row), x -> x.receive()));
    }
    all.add(new Refusal("told", Cases.BEYOND, FindingsTest::nothing, x -> x.told(11)));
    return all;
  }

  private static void nothingChanges(List<Refusal> all) {
    for (Refusal each : all) {
      dueNothing(FindingsTest::busy, each);
    }
  }

  private static void nothingElseChanges() {
    nothingChanges(ofOthers());
    dueNothing(() -> Setups.with(Cases.TABLE), new Refusal("detect", Cases.NONE, FindingsTest::openOnly,
        x -> x.detect()));
  }

  /** But where told: the place, the broken rule, the machine that is over then. */
  private static void whereTold() {
    dueNothing(FindingsTest::busy, new Refusal("decode", Cases.MALFORMED,
        x -> Setups.putBytes(x, 65, 65, 65, 9), x -> x.decode(0, 0)), "told(0)");
    dueNothing(FindingsTest::busy, new Refusal("encode", Cases.MISSING, FindingsTest::nothing,
        x -> x.encode(0, 0)), "told(0)");
    dueNothing(FindingsTest::busy, new Refusal("lengths", Cases.MISSING, FindingsTest::nothing,
        x -> x.lengths(0, 0)), "told(0)");
    dueNothing(FindingsTest::busy, new Refusal("close", Cases.BAD, x -> x.entry(1, 0, 9, 1, 'q'),
        x -> x.close(1)), "told(1)", "told(2)", "told(3)");
    dueNothing(FindingsTest::busy, new Refusal("feed", Cases.MALFORMED, x -> {
      x.begin(3, 0, false, 0);
      x.feed(3, 65);
    }, x -> x.feed(3, 9)), "told(0)", "machine 3");
    dueNothing(FindingsTest::busy, new Refusal("feed", Cases.MISSING, x -> {
      x.begin(3, 0, true, 4);
      x.feed(3, 'b');
    }, x -> x.feed(3, 'q')), "told(0)", "machine 3");
    dueNothing(FindingsTest::busy, new Refusal("end", Cases.MALFORMED, x -> {
      x.begin(3, 0, false, 0);
      x.feed(3, 27);
      x.feed(3, 0x41);
    }, x -> x.end(3)), "told(0)", "machine 3");
    dueNothing(FindingsTest::busy, new Refusal("end", Cases.MISSING, x -> {
      x.begin(3, 0, true, 0);
      x.feed(3, 'b');
      x.feed(3, 0xD800);
    }, x -> x.end(3)), "told(0)", "machine 3");
  }

  static Cases cases() {
    return new Cases().section("FINDINGS")
        .say("FINDINGS are the answers below 0: BEYOND -1, NONE -2, KIND -3, CLOSED -4, OPEN -5, FULL -6, THERE -7, "
            + "BAD -8, MALFORMED -9, MISSING -10, LOOP -11, LONG -12, SUM -13.", FindingsTest::numbers)
        .say("Each act tells its findings in the order in which they are asked; the first that is so is the answer.",
            FindingsTest::orderOfPages, FindingsTest::orderOfRows, FindingsTest::orderOfFallbacks,
            FindingsTest::orderOfMachines)
        .say("An act that answers a finding changes nothing, but where told.", () -> nothingChanges(ofPages()),
            () -> nothingChanges(ofRows()), () -> nothingChanges(ofMachines()), FindingsTest::nothingElseChanges,
            FindingsTest::whereTold);
  }

  public static void main(String[] args) {
    cases().run();
  }
}
