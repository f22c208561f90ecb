import java.io.IOException;
import java.lang.reflect.Method;
import java.nio.file.Files;
import java.nio.file.Path;
import java.nio.file.Paths;
import java.util.ArrayList;
import java.util.Comparator;
import java.util.List;
import java.util.TreeMap;

/**
 * src/test/LIST.md tells which test belongs to which promise and sentence: that it names every one, that each quotes the
 * document, that each promise has one, and that no sentence of the document is left without one. "java ListTest write"
 * writes it anew.
 */
public final class ListTest {
  private static final Class<?>[] TESTS = {
    ShelfEdges.class, DriveEdges.class, TapeEdges.class, WayEdges.class, HeardEdges.class, ToldWayEdges.class, TruthEdges.class,
    StateEdges.class
  };
  private static final Path LIST = Paths.get("src/test/LIST.md");
  private static final Path DOCUMENT = Paths.get("../shared/DOC.md");
  private static final int PROMISES = 54;

  private static int wrong = 0;

  private static void need(boolean isSo, String what) {
    if (!isSo) {
      wrong++;
      System.out.println(what);
    }
  }

  /** The document by its promises; by 0 all that isn't under one. */
  private static TreeMap<Integer, String> sections() throws IOException {
    TreeMap<Integer, String> found = new TreeMap<>();
    int at = 0;
    for (String line : Files.readAllLines(DOCUMENT)) {
      if (line.startsWith("## Promise ")) {
        at = Integer.parseInt(line.substring(11, line.indexOf(':')));
      } else if (line.startsWith("## ")) {
        at = 0;
      }
      found.merge(at, line + " ", String::concat);
    }
    found.replaceAll((number, text) -> text.replaceAll("\\s+", " "));
    return found;
  }

  private static List<Method> tests() {
    List<Method> all = new ArrayList<>();
    for (Class<?> tests : TESTS) {
      all.addAll(Edges.testsOf(tests));
    }
    all.sort(Comparator.comparing((Method m) -> m.getAnnotation(Of.class).promise()).thenComparing(Method::getName)
        .thenComparing(m -> m.getDeclaringClass().getName()));
    return all;
  }

  private static List<String> list() {
    List<String> lines = new ArrayList<>();
    lines.add("# Which test belongs to which promise and sentence");
    lines.add("");
    lines.add("Made by `java ListTest write` from the words that each test quotes; `ListTest` fails if it isn't so any more.");
    lines.add("Beside these, `PromisesTest` has a test of each promise, `ModelTest` random runs of all calls, `FaceTest` the public face.");
    int at = -1;
    for (Method m : tests()) {
      Of of = m.getAnnotation(Of.class);
      if (of.promise() != at) {
        at = of.promise();
        lines.add("");
        lines.add(at == 0 ? "## The terms alone" : "## Promise " + at);
        lines.add("");
      }
      lines.add("- `" + m.getDeclaringClass().getName() + "." + m.getName() + "`: " + of.says());
    }
    return lines;
  }

  private static void quotes() throws IOException {
    TreeMap<Integer, String> sections = sections();
    need(sections.lastKey() == PROMISES, "the document's last promise is " + sections.lastKey());
    for (Method m : tests()) {
      Of of = m.getAnnotation(Of.class);
      boolean isThere = sections.get(of.promise()).contains(of.says()) || sections.get(0).contains(of.says());
      need(isThere, m + " quotes what isn't in the document: " + of.says());
      need(m.getName().startsWith(String.format("p%02d_", of.promise())), m + " is of promise " + of.promise());
    }
    for (int promise = 1; promise <= PROMISES; promise++) {
      int number = promise;
      need(tests().stream().anyMatch(m -> m.getAnnotation(Of.class).promise() == number), "promise " + promise + " has no test");
    }
  }

  /** What of a promise, or of the terms, a test must stand for: all but headings, the face and what isn't promised. */
  private static String sentences(int promise, String section) {
    if (promise > 0) {
      return section.substring(section.indexOf("`: ", section.indexOf('`') + 1) + 3);
    }
    String used = section.substring(section.indexOf("An object is used"), section.indexOf("## The public face"));
    String terms = section.substring(section.indexOf("## Terms") + 8, section.indexOf("## Not promised"));
    return used + terms.replaceAll("==== [123]\\. THE DRIVE|==== [123]\\. WHAT IS HEARD|```text|```", " ");
  }

  /** The letters of a text that no quote stands for, blanks in place of those that one does. */
  private static String left(String text, List<String> quotes) {
    StringBuilder rest = new StringBuilder(text);
    for (String quote : quotes) {
      for (int at = text.indexOf(quote); at >= 0; at = text.indexOf(quote, at + 1)) {
        rest.replace(at, at + quote.length(), " ".repeat(quote.length()));
      }
    }
    return rest.toString().replaceAll("[^A-Za-z0-9]+", " ").trim();
  }

  private static void everySentence() throws IOException {
    TreeMap<Integer, String> sections = sections();
    for (int promise : sections.keySet()) {
      List<String> quotes = new ArrayList<>();
      for (Method m : tests()) {
        Of of = m.getAnnotation(Of.class);
        if (promise == 0 || of.promise() == promise) {
          quotes.add(of.says());
        }
      }
      String rest = left(sentences(promise, sections.get(promise)), quotes);
      need(rest.isEmpty(), "no test stands for this of promise " + promise + " (0: the terms): " + rest);
    }
  }

  public static void main(String[] args) throws IOException {
    if (args.length == 1 && args[0].equals("write")) {
      Files.write(LIST, list());
    }
    if (Files.exists(DOCUMENT)) {
      quotes();
      everySentence();
    } else {
      System.out.println("no document here: the quotes aren't looked at");
    }
    need(Files.exists(LIST) && Files.readAllLines(LIST).equals(list()), LIST + " isn't as the tests tell it");
    System.out.println(wrong == 0 ? "the list is true" : wrong + " faults of the list");
    if (wrong != 0) System.exit(1);
  }
}
