import java.util.ArrayList;
import java.util.List;

/** Tests that are each of one sentence of the document, which is told when the test fails. */
final class Cases {
  static final int BEYOND = -1, NONE = -2, KIND = -3, CLOSED = -4, OPEN = -5, FULL = -6, THERE = -7,
      BAD = -8, MALFORMED = -9, MISSING = -10, LOOP = -11, LONG = -12, SUM = -13;
  static final int TABLE = 0, HIGH = 1, LOW = 2, FEW = 3;
  static final int REFUSE = 0, SIGN = 1, DROP = 2, KEEP = 3, FALLBACK = 4;
  /** What no number of a page, machine, state, rule or value is. */
  static final int[] ODD = {-1, -2, Integer.MIN_VALUE, Integer.MIN_VALUE + 1, Integer.MAX_VALUE};

  record Case(String section, String sentence, Runnable... tests) { }

  private static int wrong = 0;
  private static int checks = 0;

  private final List<Case> all = new ArrayList<>();
  private String section = "";

  Cases section(String name) {
    section = name;
    return this;
  }

  Cases say(String sentence, Runnable... tests) {
    all.add(new Case(section, sentence, tests));
    return this;
  }

  List<Case> all() {
    return all;
  }

  static void due(String call, long got, long want) {
    checks++;
    if (got != want) {
      wrong++;
      System.out.println("    " + call + " answered " + got + ", due is " + want);
    }
  }

  private static void run(Runnable test) {
    int before = checks;
    try {
      test.run();
    } catch (RuntimeException thrown) {
      wrong++;
      System.out.println("    " + thrown);
    }
    if (checks == before) {
      wrong++;
      System.out.println("    nothing was asked");
    }
  }

  /** Runs all, and ends the program. */
  void run() {
    int failed = 0;
    for (Case each : all) {
      int before = wrong;
      for (Runnable test : each.tests) {
        run(test);
      }
      if (each.tests.length == 0 || wrong > before) {
        failed++;
        System.out.println(each.section + " fails: " + each.sentence);
      }
    }
    System.out.println(failed == 0 ? all.size() + " sentences hold, " + checks + " answers are as due"
        : failed + " sentences do not hold");
    System.exit(failed == 0 ? 0 : 1);
  }
}
