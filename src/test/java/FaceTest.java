import java.io.IOException;
import java.lang.reflect.Constructor;
import java.lang.reflect.Field;
import java.lang.reflect.Method;
import java.lang.reflect.Modifier;
import java.nio.file.Files;
import java.nio.file.Path;
import java.nio.file.Paths;
import java.util.ArrayList;
import java.util.Arrays;
import java.util.List;
import java.util.TreeSet;

/** "The public face" of the document and rule 1 of LANGUAGE.md: what the class shows, no less and no more. */
public final class FaceTest {
  private static final Path DOCUMENT = Paths.get("../shared/DOC.md");
  private static final Class<?> CLASS = GravelHasTheLastWord.class;

  private static final String[] FACE = {
    "int row(int,int,int)", "int set(int,int,long)", "int copy(int,int,int,int,int)", "long element(int,int)",
    "int holds(int)", "int show(int,int)", "int says(int,int)", "int side(int)", "int gravel(int,int)",
    "int ask(int,int)", "int feet(int,int,int)", "int feed(int)", "int wipe()", "int drive()", "int feetOf(int,int)",
    "int cellOf(int,int)", "int crunch(int,int,int)", "int quietest(int,int)", "int softest(int,int)",
    "int unheard(int,int)", "int raked(int,int)", "int who(int,int,int)", "int apart(int)", "int telling(int)",
    "int as(int,int,int,int)", "int two(int,int,int,int)", "int meant(int,int,int,int)", "int loudest(int,int)",
    "int ways()", "int through(int)", "int dry(int)", "int mean(int)", "int heardOn(int)", "int silent()",
    "int heardBy(int)", "int gap(int,int,int)", "int confused(int)", "int planks(int,int)", "int column(int)",
    "int odds(int)", "int worst(int)", "int ranked(int)", "int duel(int,int)", "int judge(int,int)",
    "int loud(int,int,int,int)", "int done(int,int,int)", "int rake()", "int sweep(int)", "int arrivals(int)",
    "int seed(int)", "int image()", "int back()", "int status(int)"
  };

  private static int wrong = 0;

  private static void need(boolean isSo, String what) {
    if (!isSo) {
      wrong++;
      System.out.println(what);
    }
  }

  private static void needSame(String what, List<String> got, List<String> want) {
    need(new TreeSet<>(got).equals(new TreeSet<>(want)) && got.size() == want.size(), what + " is " + got + ", due is " + want);
  }

  /** The lines of the document's face: its constants, its constructor and its methods, as they stand there. */
  private static List<String> told() throws IOException {
    List<String> lines = new ArrayList<>();
    boolean isFace = false;
    for (String line : Files.readAllLines(DOCUMENT)) {
      if (line.startsWith("## ")) {
        isFace = line.equals("## The public face");
      } else if (isFace && line.startsWith("    ")) {
        lines.add(line.trim());
      }
    }
    return lines;
  }

  private static String named(Class<?>[] types) {
    StringBuilder names = new StringBuilder();
    for (Class<?> type : types) {
      names.append(names.length() == 0 ? "" : ",").append(type);
    }
    return names.toString();
  }

  private static String withoutNames(String line) {
    return line.replaceAll("(int|long) \\w+([,)])", "$1$2").replace(", ", ",").replace(";", "").replace("public ", "");
  }

  private static void asTheDocumentHasIt() throws IOException {
    List<String> methods = new ArrayList<>();
    List<String> others = new ArrayList<>();
    for (String line : told()) {
      boolean isMethod = line.matches("public (int|long) \\w+\\(.*\\);");
      (isMethod ? methods : others).add(isMethod ? withoutNames(line) : line);
    }
    needSame("the document's list of methods", methods, Arrays.asList(FACE));
    needSame("the rest of it", others,
        List.of("public static final int NONE = -1;", "public GravelHasTheLastWord();"));
  }

  private static void methods() {
    List<String> shown = new ArrayList<>();
    TreeSet<String> names = new TreeSet<>();
    for (String line : FACE) {
      names.add(line.substring(line.indexOf(' ') + 1, line.indexOf('(')));
    }
    for (Method m : CLASS.getDeclaredMethods()) {
      if (Modifier.isPrivate(m.getModifiers())) {
        need(!names.contains(m.getName()), "a private method bears a public name: " + m.getName());
      } else {
        need(Modifier.isPublic(m.getModifiers()) && !Modifier.isStatic(m.getModifiers()), "not of the face: " + m);
        need(m.getExceptionTypes().length == 0, "it tells that it throws: " + m);
        shown.add(m.getReturnType() + " " + m.getName() + "(" + named(m.getParameterTypes()) + ")");
      }
    }
    needSame("the face", shown, Arrays.asList(FACE));
  }

  private static void constants() throws IllegalAccessException {
    int shown = 0;
    for (Field f : CLASS.getDeclaredFields()) {
      if (!Modifier.isPrivate(f.getModifiers())) {
        shown++;
        boolean isConstant = f.getModifiers() == (Modifier.PUBLIC | Modifier.STATIC | Modifier.FINAL);
        need(isConstant && f.getName().equals("NONE") && f.getType() == int.class && f.getInt(null) == -1, "not of the face: " + f);
      }
    }
    need(shown == 1, "constants that are shown: " + shown);
  }

  private static void constructor() {
    Constructor<?>[] makers = CLASS.getDeclaredConstructors();
    need(makers.length == 1 && makers[0].getParameterCount() == 0 && Modifier.isPublic(makers[0].getModifiers())
        && makers[0].getExceptionTypes().length == 0, "the constructor");
  }

  private static void theClass() {
    int modifiers = CLASS.getModifiers();
    need(Modifier.isPublic(modifiers) && Modifier.isFinal(modifiers) && !Modifier.isAbstract(modifiers), "public and final");
    need(CLASS.getPackageName().isEmpty(), "it has a package");
    need(CLASS.getSuperclass() == Object.class && CLASS.getInterfaces().length == 0, "it is of no other class");
    for (Class<?> inner : CLASS.getDeclaredClasses()) {
      int of = inner.getModifiers();
      need(Modifier.isStatic(of) && !Modifier.isPublic(of) && !Modifier.isProtected(of), "a class inside: " + inner);
    }
  }

  public static void main(String[] args) throws IOException, IllegalAccessException {
    if (Files.exists(DOCUMENT)) {
      asTheDocumentHasIt();
    } else {
      System.out.println("no document here: the face is held against this test's own list alone");
    }
    methods();
    constants();
    constructor();
    theClass();
    System.out.println(wrong == 0 ? "the face is the document's own" : wrong + " faults of the face");
    if (wrong != 0) System.exit(1);
  }
}
