import java.lang.reflect.Constructor;
import java.lang.reflect.Field;
import java.lang.reflect.Method;
import java.lang.reflect.Modifier;
import java.nio.file.Files;
import java.nio.file.Path;
import java.util.ArrayList;
import java.util.List;
import java.util.Set;
import java.util.TreeSet;
import java.util.regex.Matcher;
import java.util.regex.Pattern;

/** The face of the class, and the rules of LANGUAGE.md that can be seen in its text. */
public final class LanguageTest {
  private static final String[] FACE = {
    "int page(int)", "int derive(int)", "int entry(int,int,int,int,int)",
    "int shift(int,int,int,int,boolean)", "int drop(int,int,int,int)", "int close(int)",
    "int size(int,int)", "long code(int,int)", "int bytesIn(long,int)", "int unitsIn(long,int)",
    "int fill(int)", "int decode(int,int)", "int encode(int,int)", "int transcode(int,int,int,int)",
    "int result(int)", "int sign(int,int)", "int fallback(int)", "int begin(int,int,boolean,int)",
    "int feed(int,int)", "int end(int)", "int take(int)", "int machine(int,int)",
    "int coverage(int,int,int)", "int differ(int,int,int)", "int misread(int,int)", "int faults(int)",
    "int detect()", "int lengths(int,int)", "int send(int)", "int receive()", "int told(int)"};
  private static final String[] FORBIDDEN = {"throw", "throws", "try", "catch", "synchronized", "assert",
    "volatile", "native", "transient", "var", "goto", "yield", "enum", "record", "System\\.(?!arraycopy\\b)\\w+",
    "Object", "Random", "Thread", "Class", "Exact", "hashCode", "toString", "equals", "getClass"};

  private static int wrong = 0;

  private static void check(String rule, boolean holds, String what) {
    if (!holds) {
      wrong++;
      System.out.println("rule " + rule + ": " + what);
    }
  }

  private static String signature(Method method) {
    StringBuilder text = new StringBuilder();
    text.append(method.getReturnType().getName()).append(' ').append(method.getName()).append('(');
    for (Class<?> type : method.getParameterTypes()) {
      text.append(text.charAt(text.length() - 1) == '(' ? "" : ",").append(type.getName());
    }
    return text.append(')').toString();
  }

  private static void face() {
    Class<?> type = CodeExchange.class;
    check("1", Modifier.isPublic(type.getModifiers()) && Modifier.isFinal(type.getModifiers()), "public final");
    Set<String> due = new TreeSet<>(List.of(FACE));
    Set<String> found = new TreeSet<>();
    Set<String> names = new TreeSet<>();
    for (Method method : type.getDeclaredMethods()) {
      if (!Modifier.isPrivate(method.getModifiers())) {
        found.add(signature(method));
        names.add(method.getName());
        check("1", Modifier.isPublic(method.getModifiers()), method + " is not public");
        check("1", !Modifier.isStatic(method.getModifiers()), method + " is static");
      }
    }
    check("1", due.equals(found), "the face is " + found);
    for (Field field : type.getDeclaredFields()) {
      check("1", Modifier.isPrivate(field.getModifiers()), field + " is not private");
    }
    Constructor<?>[] made = type.getDeclaredConstructors();
    check("1", made.length == 1 && made[0].getParameterCount() == 0
        && Modifier.isPublic(made[0].getModifiers()), "one public constructor");
    List<Class<?>> all = new ArrayList<>(List.of(type.getDeclaredClasses()));
    for (Class<?> inside : all) {
      check("2", Modifier.isStatic(inside.getModifiers()), inside + " is not static");
      check("1", !Modifier.isPublic(inside.getModifiers()), inside + " is public");
      check("2", inside.getDeclaredClasses().length == 0, inside + " has classes inside");
    }
    all.add(type);
    check("11", all.size() <= 12, all.size() + " classes");
    for (Class<?> each : all) {
      members(each, type, names);
    }
  }

  private static void members(Class<?> each, Class<?> outer, Set<String> names) {
    int fields = 0;
    for (Field field : each.getDeclaredFields()) {
      boolean isStatic = Modifier.isStatic(field.getModifiers());
      fields += isStatic ? 0 : 1;
      check("5", !isStatic || (Modifier.isFinal(field.getModifiers()) && field.getType() == int.class),
          field + " is static");
    }
    check("11", fields <= 20, each + " has " + fields + " fields");
    for (Method method : each.getDeclaredMethods()) {
      check("11", method.getParameterCount() <= 7, method + " has many parameters");
      boolean hidden = each != outer || Modifier.isPrivate(method.getModifiers());
      check("1", !hidden || !names.contains(method.getName()), method + " has a public name");
    }
  }

  private static void text(String source) {
    String bare = source.replaceAll("(?s)/\\*.*?\\*/", "").replaceAll("//[^\n]*", "");
    for (String word : FORBIDDEN) {
      Matcher found = Pattern.compile("\\b" + word + "\\b").matcher(bare);
      check("4, 6, 13", !found.find(), "the text has " + word);
    }
    check("4", !bare.contains("Exact("), "a function whose name ends in Exact");
    check("2", !bare.contains("->") && !bare.contains("::"), "a lambda or a method reference");
    check("1", !bare.contains("package "), "a package line");
    check("10", !bare.contains("\""), "a text");
    Matcher imports = Pattern.compile("import ([^;]*);").matcher(bare);
    while (imports.find()) {
      check("4", imports.group(1).equals("java.util.Arrays"), "import of " + imports.group(1));
    }
    Matcher uses = Pattern.compile("\\b(Math|Arrays|Integer|Long)\\.(\\w+)").matcher(bare);
    while (uses.find()) {
      check("4", List.of("min", "max", "fill").contains(uses.group(2)), "use of " + uses.group());
    }
    for (int i = 0; i < source.length(); i++) {
      check("3", source.charAt(i) < 256, "a character that is not 0 to 255");
    }
  }

  /** A method begins at a line that ends in ") {" or "{" one or two levels in, and ends at its brace. */
  private static void methodLengths(String source) {
    String[] lines = source.split("\n");
    Pattern head = Pattern.compile("^( {4}| {8})\\S.*\\) \\{$");
    for (int i = 0; i < lines.length; i++) {
      Matcher found = head.matcher(lines[i]);
      if (!found.find()) {
        continue;
      }
      String brace = found.group(1) + "}";
      int k = i;
      while (k < lines.length && !lines[k].equals(brace)) {
        k++;
      }
      check("11", k - i < 60, "a long method: " + lines[i].trim());
    }
  }

  public static void main(String[] args) throws Exception {
    String source = Files.readString(Path.of(args[0]));
    face();
    text(source);
    methodLengths(source);
    System.out.println(wrong == 0 ? "the rules hold" : wrong + " faults");
    System.exit(wrong == 0 ? 0 : 1);
  }
}
