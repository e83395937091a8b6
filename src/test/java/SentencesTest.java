import java.nio.file.Files;
import java.nio.file.Path;
import java.util.ArrayList;
import java.util.Comparator;
import java.util.LinkedHashMap;
import java.util.List;
import java.util.Map;
import java.util.regex.Matcher;
import java.util.regex.Pattern;

/**
 * That no sentence of the document is without a test: the sentences that the tests tell of are
 * looked for in the document's terms and promises, and nothing may be left there that none tells of.
 */
public final class SentencesTest {
  private static int wrong = 0;

  private SentencesTest() { }

  private static void fault(String text) {
    wrong++;
    System.out.println(text);
  }

  private static String between(String text, String begin, String end) {
    int from = text.indexOf(begin);
    int to = from < 0 ? -1 : text.indexOf(end, from + begin.length());
    return to < 0 ? "" : text.substring(from + begin.length(), to);
  }

  private static String plain(String text) {
    return text.replaceAll("(?m)^```.*$", " ").replaceAll("\\s+", " ").trim();
  }

  /** The text of each section that has to be told of. */
  private static Map<String, String> sections(String document) {
    Map<String, String> all = new LinkedHashMap<>();
    all.put("What it is", plain(between(document, "sent as bytes and taken in again.\n\n", "\n## The public face")));
    String terms = between(document, "\n## Terms\n", "\nAhead of the calls");
    Matcher term = Pattern.compile("(?m)^(\\d+)\\. ").matcher(terms);
    String name = "FINDINGS";
    int from = 0;
    while (term.find()) {
      all.put(name, plain(terms.substring(from, term.start())));
      name = "Term " + term.group(1);
      from = term.end();
    }
    all.put(name, plain(terms.substring(from)));
    Matcher promise = Pattern.compile("(?s)\n## (Promise \\d+): [^\n]*\n\n`[^`]*`: (.*?)(?=\n## )").matcher(document);
    while (promise.find()) {
      all.put(promise.group(1), plain(promise.group(2)));
    }
    return all;
  }

  private static List<Cases.Case> told() {
    List<Cases.Case> all = new ArrayList<>();
    for (Cases each : List.of(FindingsTest.cases(), TermsTest.cases(), PagesTest.cases(), RowsTest.cases(),
        MachinesTest.cases(), BesideTest.cases())) {
      all.addAll(each.all());
    }
    // The long ones first, so that a short one isn't found within a longer one.
    all.sort(Comparator.comparingInt(each -> -each.sentence().length()));
    return all;
  }

  private static void compare(Map<String, String> sections) {
    Map<String, String> left = new LinkedHashMap<>(sections);
    for (Cases.Case each : told()) {
      String text = left.getOrDefault(each.section(), "");
      int at = text.indexOf(each.sentence());
      if (at < 0) {
        fault(each.section() + " does not say: " + each.sentence());
      } else {
        left.put(each.section(), text.substring(0, at) + "|" + text.substring(at + each.sentence().length()));
      }
    }
    for (Map.Entry<String, String> each : left.entrySet()) {
      if (!each.getValue().replaceAll("[| ]", "").isEmpty()) {
        fault(each.getKey() + " is without a test: " + each.getValue());
      }
    }
  }

  public static void main(String[] args) throws Exception {
    Path document = Path.of(args.length > 1 ? args[1] : "../shared/DOC.md");
    if (!Files.exists(document)) {
      System.out.println("there is no document to look into");
      System.exit(0);
    }
    Map<String, String> sections = sections(Files.readString(document).replace("\r\n", "\n"));
    if (sections.size() != 1 + 1 + 8 + 32) {
      fault("the document has the sections " + sections.keySet());
    }
    compare(sections);
    System.out.println(wrong == 0 ? "each sentence of " + sections.size() + " sections has a test" : wrong + " faults");
    System.exit(wrong == 0 ? 0 : 1);
  }
}
