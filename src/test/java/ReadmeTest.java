import java.io.IOException;
import java.nio.file.Files;
import java.nio.file.Path;
import java.nio.file.Paths;
import java.util.ArrayList;
import java.util.Comparator;
import java.util.List;
import java.util.TreeMap;
import java.util.TreeSet;
import java.util.regex.Matcher;
import java.util.regex.Pattern;
import java.util.stream.Stream;

/**
 * README.md is held against the class: its run of calls is compiled and run as it stands there, each answer beside its
 * call is due, its commands work, its list of calls is the document's, and the files that it names are there.
 */
public final class ReadmeTest {
  private static final Path README = Paths.get("README.md");
  private static final Path DOCUMENT = Paths.get("../shared/DOC.md");
  private static final Pattern ANSWERED = Pattern.compile("(?:(?:int|long) (\\w+) = )?(x\\.(\\w+)\\(.*?\\));\\s*// (-?\\d+)(?:: .+)?");
  private static final Pattern MAKES = Pattern.compile("GravelHasTheLastWord x = new GravelHasTheLastWord\\(\\);");
  private static final Pattern REPEATS = Pattern.compile("for \\(.*\\) x\\.\\w+\\(.*\\);");
  private static final int LEAST_ANSWERS = 30;

  private static int wrong = 0;

  private static void need(boolean isSo, String what) {
    if (!isSo) {
      wrong++;
      System.out.println(what);
    }
  }

  /** The lines of all blocks of a language, fences left out. */
  private static List<String> block(String language) throws IOException {
    List<String> lines = new ArrayList<>();
    boolean isInside = false;
    for (String line : Files.readAllLines(README)) {
      if (line.startsWith("```")) {
        isInside = line.equals("```" + language);
      } else if (isInside && !line.isBlank()) {
        lines.add(line);
      }
    }
    return lines;
  }

  /** A class that goes through the run of calls, and ends with 1 if an answer isn't the one beside it. */
  private static String program(String name, List<String> run) {
    StringBuilder code = new StringBuilder("public final class " + name + " {\n  static int wrong = 0;\n"
        + "  static long due(String call, long got, long want) {\n    if (got != want) {\n      wrong++;\n"
        + "      System.out.println(call + \" answered \" + got + \", README.md has \" + want);\n    }\n    return got;\n  }\n"
        + "  public static void main(String[] args) {\n");
    for (String line : run) {
      Matcher m = ANSWERED.matcher(line);
      boolean isAnswered = m.matches();
      need(isAnswered || MAKES.matcher(line).matches() || REPEATS.matcher(line).matches(), "no answer stands beside " + line);
      String quoted = isAnswered ? "\"" + m.group(2).replace("\"", "\\\"") + "\"" : "";
      if (isAnswered && m.group(1) != null) {
        code.append("    int ").append(m.group(1)).append(" = (int) ");
      }
      code.append(isAnswered ? "due(" + quoted + ", " + m.group(2) + ", " + m.group(4) + ");" : line).append('\n');
    }
    return code.append("    if (wrong != 0) System.exit(1);\n  }\n}\n").toString();
  }

  private static void answers(List<String> run) {
    TreeMap<Integer, Integer> answered = new TreeMap<>();
    for (String line : run) {
      Matcher m = ANSWERED.matcher(line);
      if (m.matches()) {
        answered.merge(Integer.parseInt(m.group(4)), 1, Integer::sum);
      }
    }
    int all = answered.values().stream().mapToInt(Integer::intValue).sum();
    need(all >= LEAST_ANSWERS, "the run of calls has " + all + " answers");
    for (int refusal = -6; refusal <= -1; refusal++) {
      need(answered.containsKey(refusal), "no call of the run answers " + refusal);
    }
  }

  // ---- commands

  private static int done(List<String> command) throws IOException, InterruptedException {
    Process p = new ProcessBuilder(command).redirectErrorStream(true).start();
    String told = new String(p.getInputStream().readAllBytes());
    int code = p.waitFor();
    if (code != 0) {
      System.out.print(told);
    }
    return code;
  }

  /** Every command but the one that runs this test too, in a folder of its own. */
  private static void commands(Path folder) throws IOException, InterruptedException {
    int tried = 0;
    for (String line : block("sh")) {
      if (line.equals("sh .ci/run")) {
        need(Files.exists(Paths.get(".ci/run")), "there is no .ci/run");
        need(Files.readString(Paths.get(".ci/run")).contains("echo \"$passed passed, $failed failed\""), "its last line is another");
        continue;
      }
      List<String> command = new ArrayList<>();
      for (String word : line.split(" ")) {
        boolean isThere = word.equals("build") || word.equals("Morning.java");
        command.add(isThere ? folder.resolve(word).toString() : word);
      }
      tried++;
      need(command.get(0).matches("javac?") && done(command) == 0, "the command doesn't work: " + line);
    }
    need(tried == 5, "commands: " + tried);
  }

  private static void runs(List<String> run) throws IOException, InterruptedException {
    Path folder = Files.createTempDirectory("readme");
    try {
      Files.writeString(folder.resolve("Morning.java"), program("Morning", run));
      commands(folder);
    } finally {
      try (Stream<Path> files = Files.walk(folder)) {
        files.sorted(Comparator.reverseOrder()).forEach(file -> file.toFile().delete());
      }
    }
  }

  // ---- what it names

  /** The table of calls has each of them, once, with the number of its promise. */
  private static void calls() throws IOException {
    TreeMap<String, String> told = new TreeMap<>();
    Pattern entry = Pattern.compile("`(\\w+)` (\\d+)");
    for (String line : Files.readAllLines(README)) {
      Matcher m = entry.matcher(line);
      while (line.startsWith("| ") && m.find()) {
        need(told.put(m.group(1), m.group(2)) == null, "told twice: " + m.group(1));
      }
    }
    TreeSet<String> names = new TreeSet<>();
    Edges.calls().forEach(m -> names.add(m.getName()));
    need(told.keySet().equals(names), "the table has " + told.keySet() + ", the class " + names);
    if (Files.exists(DOCUMENT)) {
      Pattern heading = Pattern.compile("## Promise (\\d+): (\\w+)");
      for (String line : Files.readAllLines(DOCUMENT)) {
        Matcher m = heading.matcher(line);
        need(!m.matches() || m.group(1).equals(told.get(m.group(2))), "the table has another promise: " + line);
      }
    }
  }

  private static void files() throws IOException {
    String text = Files.readString(README);
    Matcher m = Pattern.compile("src/[\\w./]+\\w").matcher(text);
    TreeSet<String> named = new TreeSet<>();
    while (m.find()) {
      named.add(m.group());
    }
    for (String name : named) {
      need(Files.exists(Paths.get(name)), "there is no " + name);
    }
    try (Stream<Path> there = Files.list(Paths.get("src/test/java"))) {
      there.forEach(file -> need(named.contains(file.toString().replace('\\', '/')), "README.md doesn't tell of " + file));
    }
  }

  /** What it says of a new object, of REFUSALS and where they are counted, by the class itself. */
  private static void sayings() throws IOException {
    String text = String.join(" ", Files.readAllLines(README));
    GravelHasTheLastWord x = new GravelHasTheLastWord();
    String made = "a drive of SIDE " + x.status(1) + " with GRAVEL " + x.cellOf(15, 0) + " on each of its "
        + x.status(4) / 3 + " CELLS, RAIN " + x.status(2) + ", EAR " + x.status(3) + ", SEED " + x.status(7) + ", no FEET";
    need(text.contains(made), "a new object is " + made);
    need(text.contains("`GravelHasTheLastWord.NONE`, which is " + GravelHasTheLastWord.NONE), "NONE");
    x.feed('r');
    String[] reasons = {"BAD", "OTHER", "NOTHING", "STUCK", "FULL"};
    for (int feet = 0; feet < 8; feet++) {
      x.feet(0, 0, 1);
    }
    x.show(1, 0);
    int[] answers = {x.side(7), x.set(1, 0, 0), x.set(2, 0, 0), x.back(), x.feet(0, 0, 1)};
    for (int i = 0; i < reasons.length; i++) {
      need(text.contains("| " + answers[i] + " | " + reasons[i] + ": "), reasons[i] + " is " + answers[i]);
      need(text.contains("`status(" + (12 + i) + ")` |") && x.status(12 + i) == 1, reasons[i] + " is counted");
    }
    int[] never = {
      (int) x.element(9, 9), x.holds(9), x.wipe(), x.ways(), x.silent(), x.rake(), x.seed(-2), x.image(), x.status(99)
    };
    need(never.length == 9 && x.status(12) == 1, "what refuses nothing");
    x.row(0, 2, 1);
    x.set(0, 0, -2);
    need(x.element(0, 0) == -2 && x.status(7) == -2 && x.seed(1) == -2 && x.status(12) == 1, "-2 that is no refusal");
  }

  public static void main(String[] args) throws IOException, InterruptedException {
    List<String> run = block("java");
    answers(run);
    runs(run);
    calls();
    files();
    sayings();
    System.out.println(wrong == 0 ? "README.md holds" : wrong + " faults of README.md");
    if (wrong != 0) System.exit(1);
  }
}
