import java.lang.management.ManagementFactory;
import java.lang.reflect.Method;
import java.lang.reflect.Modifier;
import java.util.Random;

/** What the dearest calls make, and that no call throws, whatever its arguments. */
public final class RoomTest {
  private static final int[] NUMBERS = {Integer.MIN_VALUE, Integer.MIN_VALUE + 1, -65537, -2, -1, 0, 1, 2, 3, 4, 5,
      8, 9, 10, 100, 255, 256, 65535, 65536, 0xD800, 0xDFFF, 0x10FFFF, 0x110000, 0xFFFFFF, 0x1000000,
      Integer.MAX_VALUE - 1, Integer.MAX_VALUE};
  private static int wrong = 0;

  private static long allocated() {
    com.sun.management.ThreadMXBean bean =
        (com.sun.management.ThreadMXBean) ManagementFactory.getThreadMXBean();
    return bean.getThreadAllocatedBytes(Thread.currentThread().getId());
  }

  private static void check(boolean holds, String what) {
    if (!holds) {
      wrong++;
      System.out.println(what);
    }
  }

  /** Ten full tables, full input, 40 fallbacks, by 337 calls. */
  private static CodeExchange full() {
    CodeExchange x = new CodeExchange();
    x.page(0);
    for (int i = 0; i < 100; i++) {
      x.entry(0, i % 2, 0x800000 + i, 3, 1000 + i);
    }
    for (int i = 0; i < 10; i++) {
      x.shift(0, i % 2, i, 1 - i % 2, true);
    }
    check(x.close(0) == 0, "a full table is not closed");
    for (int p = 1; p < 10; p++) {
      x.derive(0);
      check(x.close(p) == 0, "a derived table is not closed");
    }
    for (int i = 0; i < 40; i++) {
      x.unitsIn(i == 0 ? 1000 : 1999 + i, 1);
      check(x.fallback(2000 + i) == i + 1, "a fallback is not taken");
    }
    for (int i = 0; i < 125; i++) {
      x.bytesIn(0x8000008000018000L, 8);
    }
    check(x.decode(0, 3) > 0, "the bytes are not read");
    check(x.fill(3) > 0, "the units are not filled");
    return x;
  }

  private static void dear(CodeExchange x) {
    for (int i = 0; i < 13; i++) {
      x.decode(i % 10, 3);
      x.encode(i % 10, 4);
      x.transcode(0, 3, i % 10, 2);
      x.coverage(i % 10, 0, 65535);
      x.differ(0, i % 10, 0);
      x.misread(0, i % 10);
      x.detect();
      x.lengths(i % 10, 1);
      x.send(i % 10);
      x.receive();
      x.begin(i % 4, i % 10, true, 4);
      x.feed(i % 4, 2039);
      x.end(i % 4);
    }
  }

  private static void room() {
    dear(full());
    long before = allocated();
    CodeExchange x = full();
    long made = allocated() - before;
    System.out.println("a full object takes " + made + " bytes");
    check(made < 400_000, "a full object takes much room");
    before = allocated();
    dear(x);
    made = allocated() - before;
    System.out.println("169 dear calls take " + made + " bytes");
    check(made < 10_000, "dear calls take much room");
    badPages();
  }

  /** What is no page takes no room of its own, however often it is received. */
  private static void badPages() {
    CodeExchange x = new CodeExchange();
    x.bytesIn(0x01010003L, 4);
    check(x.receive() == -8, "a bad page came in");
    long before = allocated();
    for (int i = 0; i < 500; i++) {
      check(x.receive() == -8, "a bad page came in");
    }
    long made = allocated() - before;
    System.out.println("500 bad pages take " + made + " bytes");
    check(made < 10_000, "bad pages take much room");
  }

  private static Object any(Class<?> type, Random random) {
    if (type == boolean.class) {
      return random.nextBoolean();
    }
    if (type == long.class) {
      return random.nextInt(4) == 0 ? (Long) (long) NUMBERS[random.nextInt(NUMBERS.length)]
          : (Long) random.nextLong();
    }
    return random.nextInt(3) > 0 ? random.nextInt(5) : NUMBERS[random.nextInt(NUMBERS.length)];
  }

  private static void oddCalls() throws Exception {
    Random random = new Random(7);
    for (int run = 0; run < 400; run++) {
      CodeExchange x = run % 4 == 0 ? full() : new CodeExchange();
      for (int call = 0; call < (run % 4 == 0 ? 512 - 337 : 512); call++) {
        Method[] all = CodeExchange.class.getDeclaredMethods();
        Method method = all[random.nextInt(all.length)];
        if (!Modifier.isPublic(method.getModifiers())) {
          continue;
        }
        Object[] arguments = new Object[method.getParameterCount()];
        for (int i = 0; i < arguments.length; i++) {
          arguments[i] = any(method.getParameterTypes()[i], random);
        }
        try {
          method.invoke(x, arguments);
        } catch (java.lang.reflect.InvocationTargetException thrown) {
          check(false, method.getName() + " threw " + thrown.getCause());
        }
      }
    }
  }

  public static void main(String[] args) throws Exception {
    room();
    oddCalls();
    System.out.println(wrong == 0 ? "the room is kept and nothing is thrown" : wrong + " faults");
    System.exit(wrong == 0 ? 0 : 1);
  }
}
