import java.lang.reflect.Constructor;
import java.lang.reflect.Field;
import java.lang.reflect.Method;
import java.lang.reflect.Modifier;
import java.nio.file.Files;
import java.nio.file.Paths;
import java.util.Arrays;
import java.util.List;
import java.util.Set;
import java.util.TreeSet;
import java.util.regex.Matcher;
import java.util.regex.Pattern;

/** The face is the document's own, and the file keeps to what LANGUAGE.md leaves. */
public final class FormTest {
  private static final String SOURCE = "src/main/java/GravelHasTheLastWord.java";

  private static final String[] FACE = {
    "int row(int,int,int)", "int set(int,int,long)", "int copy(int,int,int,int,int)", "long element(int,int)",
    "int holds(int)", "int show(int,int)", "int says(int,int)", "int side(int)", "int gravel(int,int)",
    "int ask(int,int)", "int feet(int,int,int)", "int feed(int)", "int wipe()", "int drive()", "int feetOf(int,int)",
    "int cellOf(int,int)", "int crunch(int,int,int)", "int quietest(int,int)", "int softest(int,int)",
    "int unheard(int,int)", "int raked(int,int)", "int who(int,int,int)", "int apart(int)", "int telling(int)",
    "int as(int,int,int,int)", "int two(int,int,int,int)", "int meant(int,int,int,int)", "int loudest(int,int)",
    "int ways()", "int through(int)", "int dry(int)", "int mean(int)", "int heardOn(int)", "int silent()",
    "int heardBy(int)", "int gap(int,int,int)", "int confused(int)", "int planks(int,int)", "int column(int)",
    "int odds(int)", "int worst(int)", "int ranked(int)", "int duel(int,int)", "int judge(int,int)",
    "int loud(int,int,int,int)", "int done(int,int,int)", "int rake()", "int sweep(int)", "int arrivals(int)",
    "int seed(int)", "int image()", "int back()", "int status(int)"
  };

  private static int wrong = 0;

  private static void need(boolean isSo, String what) {
    if (!isSo) {
      wrong++;
      System.out.println(what);
    }
  }

  private static void face(Class<?> c) {
    Set<String> names = new TreeSet<>();
    Set<String> faceNames = new TreeSet<>();
    for (String line : FACE) faceNames.add(line.substring(line.indexOf(' ') + 1, line.indexOf('(')));
    for (Method m : c.getDeclaredMethods()) {
      if (Modifier.isPrivate(m.getModifiers())) {
        need(!faceNames.contains(m.getName()), "a private method bears a public name: " + m.getName());
        continue;
      }
      need(Modifier.isPublic(m.getModifiers()) && !Modifier.isStatic(m.getModifiers()), "not of the face: " + m);
      StringBuilder b = new StringBuilder(m.getReturnType() + " " + m.getName() + "(");
      for (Class<?> p : m.getParameterTypes()) b.append(b.toString().endsWith("(") ? "" : ",").append(p);
      names.add(b.append(")").toString());
    }
    need(names.equals(new TreeSet<>(Arrays.asList(FACE))), "the face is " + names);
    Constructor<?>[] makers = c.getDeclaredConstructors();
    need(makers.length == 1 && makers[0].getParameterCount() == 0, "the constructor");
    for (Field f : c.getDeclaredFields()) {
      need(Modifier.isPrivate(f.getModifiers()) || f.getName().equals("NONE"), "not of the face: " + f);
      need(!Modifier.isStatic(f.getModifiers()) || Modifier.isFinal(f.getModifiers()), "static state: " + f);
    }
    need(Modifier.isFinal(c.getModifiers()) && Modifier.isPublic(c.getModifiers()), "public and final");
    for (Class<?> inner : c.getDeclaredClasses()) {
      need(Modifier.isStatic(inner.getModifiers()), "not static: " + inner);
      for (Method m : inner.getDeclaredMethods()) {
        need(m.getParameterCount() <= 7, "more than seven parameters: " + m);
        need(!faceNames.contains(m.getName()), "a method inside bears a public name: " + m.getName());
      }
    }
  }

  private static void words(List<String> lines) {
    Pattern forbidden = Pattern.compile(
        "\\b(throw|throws|try|catch|finally|synchronized|assert|import|package|var|volatile|record|Object|System\\.(?!arraycopy)"
            + "|Exact|MAX_VALUE|MIN_VALUE|toString|hashCode|Thread|Random)\\b|->|::|@");
    for (int i = 0; i < lines.size(); i++) {
      String code = lines.get(i).replaceAll("//.*|/\\*\\*.*|^\\s*\\*.*", "");
      Matcher m = forbidden.matcher(code);
      need(!m.find(), "line " + (i + 1) + ": " + code.trim());
      for (char sign : lines.get(i).toCharArray()) need(sign < 128, "line " + (i + 1) + " has an odd sign");
    }
  }

  private static void lengths(List<String> lines) {
    int begin = -1;
    for (int i = 0; i < lines.size(); i++) {
      String line = lines.get(i);
      if (line.matches("(    |        )\\S.*\\) \\{") && !line.trim().startsWith("if") && !line.trim().startsWith("for")) {
        begin = i;
      }
      if (begin >= 0 && line.matches("(    |        )\\}")) {
        need(i - begin < 60, "the method at line " + (begin + 1) + " is long");
      }
    }
  }

  public static void main(String[] args) throws Exception {
    face(GravelHasTheLastWord.class);
    List<String> lines = Files.readAllLines(Paths.get(SOURCE));
    words(lines);
    lengths(lines);
    System.out.println(wrong == 0 ? "the form is kept" : wrong + " faults of form");
    if (wrong != 0) System.exit(1);
  }
}
