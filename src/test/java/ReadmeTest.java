import java.lang.reflect.Method;
import java.lang.reflect.Modifier;
import java.net.URL;
import java.net.URLClassLoader;
import java.nio.file.Files;
import java.nio.file.Path;
import java.util.ArrayList;
import java.util.List;
import java.util.regex.Matcher;
import java.util.regex.Pattern;
import java.util.stream.Stream;
import javax.tools.ToolProvider;

/**
 * That README.md holds: its examples are compiled and run, each answer that they show is the
 * class's own, and no call, finding or test is left out.
 */
public final class ReadmeTest {
  private static final Pattern BLOCK = Pattern.compile("(?ms)^```java\n(.*?)^```$");
  /** A call, perhaps kept in a variable, and behind it the answer. */
  private static final Pattern SHOWN =
      Pattern.compile("(?:int (\\w+) = )?(x\\.\\w+\\(.*\\)); +// (-?(?:0x[0-9A-F]+|\\d+))(?:: .*)?");
  private static int wrong = 0;
  private static int shown = 0;

  private ReadmeTest() { }

  private static void check(boolean holds, String what) {
    if (!holds) {
      wrong++;
      System.out.println(what);
    }
  }

  /** The examples ask by this, so it is seen from the class that is made of them. */
  public static void due(String line, long got, long want) {
    shown++;
    check(got == want, "README.md shows " + line + " but the answer is " + got);
  }

  private static String asked(String line) {
    Matcher call = SHOWN.matcher(line);
    if (!call.matches()) {
      check(!line.contains("x."), "README.md shows no answer: " + line);
      return line;
    }
    String quoted = "\"" + line.replace("\\", "\\\\").replace("\"", "\\\"") + "\"";
    String name = call.group(1);
    String kept = name == null ? "" : "int " + name + " = " + call.group(2) + "; ";
    return kept + "ReadmeTest.due(" + quoted + ", " + (name == null ? call.group(2) : name) + ", "
        + call.group(3) + "L);";
  }

  /** A class with a method for each example. */
  private static String program(List<String> examples) {
    StringBuilder text = new StringBuilder("public final class Examples {\n");
    for (int i = 0; i < examples.size(); i++) {
      text.append("public static void example").append(i).append("() {\n");
      for (String line : examples.get(i).split("\n")) {
        text.append(asked(line)).append('\n');
      }
      text.append("}\n");
    }
    return text.append("}\n").toString();
  }

  private static void run(List<String> examples) throws Exception {
    Path room = Files.createTempDirectory("readme");
    Path source = room.resolve("Examples.java");
    Files.writeString(source, program(examples));
    int failed = ToolProvider.getSystemJavaCompiler().run(null, null, null, "-cp",
        System.getProperty("java.class.path"), "-d", room.toString(), source.toString());
    check(failed == 0, "the examples of README.md do not compile");
    if (failed == 0) {
      try (URLClassLoader loader = new URLClassLoader(new URL[] {room.toUri().toURL()})) {
        Class<?> made = loader.loadClass("Examples");
        for (int i = 0; i < examples.size(); i++) {
          made.getMethod("example" + i).invoke(null);
        }
      }
    }
    remove(room);
  }

  private static void remove(Path room) throws Exception {
    try (Stream<Path> files = Files.list(room)) {
      for (Path file : files.toList()) {
        Files.delete(file);
      }
    }
    Files.delete(room);
  }

  private static void everyCall(List<String> examples) {
    String all = String.join("\n", examples);
    for (Method method : CodeExchange.class.getDeclaredMethods()) {
      if (Modifier.isPublic(method.getModifiers())) {
        check(all.contains("x." + method.getName() + "("), "README.md shows no call of " + method.getName());
      }
    }
  }

  private static void everyFinding(String readme) {
    String[] names = {"BEYOND", "NONE", "KIND", "CLOSED", "OPEN", "FULL", "THERE", "BAD", "MALFORMED",
      "MISSING", "LOOP", "LONG", "SUM"};
    for (int i = 0; i < names.length; i++) {
      check(readme.contains(names[i] + " -" + (i + 1)), "README.md does not tell the number of " + names[i]);
    }
    Matcher named = Pattern.compile("// -(\\d+): ([A-Z]+)").matcher(readme);
    while (named.find()) {
      int number = Integer.parseInt(named.group(1));
      check(number >= 1 && number <= names.length && names[number - 1].equals(named.group(2)),
          "README.md has another name: " + named.group());
    }
  }

  private static void everyTest(String readme) throws Exception {
    try (Stream<Path> files = Files.list(Path.of("src/test/java"))) {
      for (Path file : files.toList()) {
        String name = file.getFileName().toString().replace(".java", "");
        check(readme.contains("`" + name + "`"), "README.md does not tell of " + name);
      }
    }
  }

  public static void main(String[] args) throws Exception {
    String readme = Files.readString(Path.of("README.md")).replace("\r\n", "\n");
    List<String> examples = new ArrayList<>();
    Matcher block = BLOCK.matcher(readme);
    while (block.find()) {
      examples.add(block.group(1));
    }
    check(!examples.isEmpty(), "README.md has no examples");
    run(examples);
    everyCall(examples);
    everyFinding(readme);
    everyTest(readme);
    System.out.println(wrong == 0 ? shown + " answers in " + examples.size() + " examples are as shown"
        : wrong + " faults");
    System.exit(wrong == 0 ? 0 : 1);
  }
}
