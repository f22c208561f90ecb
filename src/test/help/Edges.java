import java.lang.reflect.InvocationTargetException;
import java.lang.reflect.Method;
import java.lang.reflect.Modifier;
import java.util.ArrayList;
import java.util.Arrays;
import java.util.Comparator;
import java.util.List;
import java.util.function.IntUnaryOperator;
import java.util.function.Supplier;
import java.util.function.ToIntBiFunction;
import java.util.function.ToLongFunction;

/** What the tests of edges lean on: running them, drives to begin with, and looks at all that an object shows. */
abstract class Edges {
  static final int NONE = -1;
  static final int BAD = -2;
  static final int OTHER = -3;
  static final int NOTHING = -4;
  static final int STUCK = -5;
  static final int FULL = -6;
  static final int MOST = Integer.MAX_VALUE;
  static final int LEAST = Integer.MIN_VALUE;

  static final int FOOT = 0;
  static final int BOOT = 1;
  static final int SOFT = 2;
  static final int SPUR = 3;
  static final int CAT = 4;
  static final int LAME = 5;

  private static String at = "";
  private static int wrong = 0;
  private static int asked = 0;

  /** All tests of a class, by their names. */
  static List<Method> testsOf(Class<?> tests) {
    List<Method> found = new ArrayList<>();
    for (Method m : tests.getDeclaredMethods()) {
      if (m.isAnnotationPresent(Of.class)) {
        found.add(m);
      }
    }
    found.sort(Comparator.comparing(Method::getName));
    return found;
  }

  /** Runs all tests of a class, tells every answer that isn't the one that is due, and ends with 1 if there was one. */
  static void run(Class<?> tests) {
    List<Method> all = testsOf(tests);
    for (Method m : all) {
      at = tests.getName() + "." + m.getName();
      int before = asked;
      call(m);
      due("asks something", asked > before ? 1 : 0, 1);
    }
    System.out.println(tests.getName() + ": " + all.size() + " tests, " + asked + " answers, " + wrong + " wrong");
    if (wrong != 0 || all.isEmpty()) {
      System.exit(1);
    }
  }

  private static void call(Method m) {
    try {
      m.setAccessible(true);
      m.invoke(null);
    } catch (InvocationTargetException e) {
      due("threw " + e.getCause(), 1, 0);
    } catch (IllegalAccessException e) {
      due("can't be called", 1, 0);
    }
  }

  /** All calls of the class, by their names. */
  static List<Method> calls() {
    List<Method> found = new ArrayList<>(List.of(GravelHasTheLastWord.class.getDeclaredMethods()));
    found.removeIf(m -> !Modifier.isPublic(m.getModifiers()));
    found.sort(Comparator.comparing(Method::getName));
    return found;
  }

  /** What a call answers to those numbers. */
  static long answer(GravelHasTheLastWord x, Method m, int... numbers) throws ReflectiveOperationException {
    Object[] boxed = new Object[numbers.length];
    for (int i = 0; i < numbers.length; i++) {
      boxed[i] = m.getParameterTypes()[i] == long.class ? (Object) (long) numbers[i] : (Object) numbers[i];
    }
    return ((Number) m.invoke(x, boxed)).longValue();
  }

  /** As many numbers as a call wants, each the same one. */
  static int[] allOf(Method m, int number) {
    int[] numbers = new int[m.getParameterCount()];
    Arrays.fill(numbers, number);
    return numbers;
  }

  static void due(String what, long got, long want) {
    asked++;
    if (got != want) {
      wrong++;
      System.out.println(at + ": " + what + " answered " + got + ", due is " + want);
    }
  }

  static void dueAll(String what, IntUnaryOperator call, int... want) {
    for (int i = 0; i < want.length; i++) {
      due(what + " " + i, call.applyAsInt(i), want[i]);
    }
  }

  /** Every number from low to high is taken with that answer; those next beyond, and the utmost, are BAD. */
  static void takes(String what, int low, int high, IntUnaryOperator call, int want) {
    for (int v = low; v <= high; v++) {
      due(what + " " + v, call.applyAsInt(v), want);
    }
    refuses(what, low, high, call, BAD);
  }

  /** The numbers next beyond low and high, those that would be within if they were cut, and the utmost are refused. */
  static void refuses(String what, int low, int high, IntUnaryOperator call, int why) {
    int[] beyond = {
      low - 1, high + 1, low - 2, high + 2, LEAST, MOST, LEAST + 1, MOST - 1, low + 256, low + 65536, high - 256, high - 65536,
      LEAST + low, LEAST + high
    };
    for (int v : beyond) {
      if (v < low || v > high) {
        due(what + " " + v, call.applyAsInt(v), why);
      }
    }
  }

  static GravelHasTheLastWord fresh() {
    return new GravelHasTheLastWord();
  }

  /** A drive whose GRAVEL is told by digits, ROW 0 first; other signs only stand between. */
  static GravelHasTheLastWord drive(String gravel) {
    GravelHasTheLastWord x = fresh();
    String digits = gravel.replaceAll("[^0-9]", "");
    for (int n = 2; n <= 6; n++) {
      if (n * n == digits.length()) {
        x.side(n);
      }
    }
    for (int cell = 0; cell < digits.length(); cell++) {
      x.gravel(cell, digits.charAt(cell) - '0');
    }
    return x;
  }

  /** A drive of one SIDE with the same GRAVEL everywhere. */
  static GravelHasTheLastWord evenly(int side, int gravel) {
    return drive(String.valueOf((char) ('0' + gravel)).repeat(side * side));
  }

  /** FEET of a KIND, an a and a LIKELY, three numbers each. */
  static GravelHasTheLastWord feet(GravelHasTheLastWord x, int... told) {
    for (int i = 0; i + 2 < told.length; i += 3) {
      x.feet(told[i], told[i + 1], told[i + 2]);
    }
    return x;
  }

  /** A FOOT of a 0 alone on a drive. */
  static GravelHasTheLastWord foot(String gravel) {
    return feet(drive(gravel), FOOT, 0, 1);
  }

  /** No FEET, one of them, and as many as there may be: which numbers are taken, all with the same answer. */
  static void takesFeet(ToIntBiFunction<GravelHasTheLastWord, Integer> call, int want) {
    int[] counts = {0, 1, 8};
    for (int count : counts) {
      GravelHasTheLastWord x = fresh();
      for (int f = 0; f < count; f++) {
        x.feet(FOOT, 0, 1);
      }
      takes("FEET of " + count, 0, count - 1, f -> call.applyAsInt(x, f), want);
    }
  }

  /** No FEET, one of them, and as many as there may be: the numbers next beyond them, and the utmost, are BAD. */
  static void refusesFeet(ToIntBiFunction<GravelHasTheLastWord, Integer> call) {
    int[] counts = {0, 1, 8};
    for (int count : counts) {
      GravelHasTheLastWord x = fresh();
      for (int f = 0; f < count; f++) {
        x.feet(FOOT, 0, 1);
      }
      refuses("FEET of " + count, 0, count - 1, f -> call.applyAsInt(x, f), BAD);
    }
  }

  /** Eight FEET: seven CATS of a 0 and LIKELY 1, which are heard less, and as the last one those that are told. */
  static GravelHasTheLastWord crowd(GravelHasTheLastWord x, int kind, int a, int likely) {
    for (int f = 0; f < 7; f++) {
      x.feet(CAT, 0, 1);
    }
    return feet(x, kind, a, likely);
  }

  static GravelHasTheLastWord ears(GravelHasTheLastWord x, int rain, int ear) {
    x.ask(0, rain);
    x.ask(1, ear);
    return x;
  }

  static GravelHasTheLastWord fill(GravelHasTheLastWord x, int s, int sort, long... v) {
    x.row(s, sort, v.length);
    for (int i = 0; i < v.length; i++) {
      x.set(s, i, v[i]);
    }
    return x;
  }

  static GravelHasTheLastWord feed(GravelHasTheLastWord x, String text) {
    for (int i = 0; i < text.length(); i++) {
      x.feed(text.charAt(i));
    }
    return x;
  }

  static int told(GravelHasTheLastWord x, String text) {
    return feed(x, text).drive();
  }

  /** A WAY that a call tells: the number for i NONE, its CELLS, and that no i beyond them is taken. */
  static void way(String what, IntUnaryOperator call, int all, int... cells) {
    due(what + " all", call.applyAsInt(NONE), all);
    dueAll(what, call, cells);
    refuses(what, NONE, cells.length - 1, call, BAD);
  }

  /** An object that has lived: every part of it differs from what it is at first. */
  static GravelHasTheLastWord lived() {
    GravelHasTheLastWord x = drive("515 294 631");
    feet(x, FOOT, 1, 10, CAT, 2, 20);
    x.seed(5);
    x.image();
    feet(x, BOOT, 0, 30);
    x.gravel(4, 0);
    ears(x, 1, 5);
    x.seed(77);
    fill(x, 0, 2, 6, 4, 7);
    fill(x, 1, 0, 1, 4, 7, -3, 9);
    x.show(2, 1);
    x.show(3, 2);
    x.row(4, 4, 0);
    fill(x, 5, 3, 1, 3);
    feed(x, "rake;rak");
    return x;
  }

  /** The same, with as many FEET as there may be, and a TAPE that is full. */
  static GravelHasTheLastWord filled() {
    GravelHasTheLastWord x = lived();
    feet(x, SOFT, 1, 1, SPUR, 2, 2, LAME, 3, 3, FOOT, 4, 4, CAT, 5, 5);
    for (int size = 8; size < 250; size++) {
      x.feed(' ');
    }
    return x;
  }

  /** All that an object shows: what is as it stands, what THE TAPE comes to, and what was kept. */
  static List<Long> shown(GravelHasTheLastWord x) {
    List<Long> all = new ArrayList<>();
    for (int what = 0; what <= 16; what++) {
      all.add((long) x.status(what));
    }
    addDrive(all, x);
    addShelves(all, x);
    if (x.status(6) < 250) {
      x.feed('e');
    }
    all.add((long) x.drive());
    addDrive(all, x);
    all.add((long) x.back());
    addDrive(all, x);
    return all;
  }

  private static void addDrive(List<Long> all, GravelHasTheLastWord x) {
    for (int what = 0; what <= 8; what++) {
      all.add((long) x.status(what));
    }
    for (int f = 0; f < x.status(0); f++) {
      all.add(x.feetOf(f, 0) * 10000L + x.feetOf(f, 1) * 1000 + x.feetOf(f, 2));
    }
    int side = x.status(1);
    for (int cell = 0; cell < side * side; cell++) {
      all.add((long) x.cellOf(cell, 0));
    }
  }

  private static void addShelves(List<Long> all, GravelHasTheLastWord x) {
    for (int s = 0; s < 8; s++) {
      all.add((long) x.holds(s));
      for (int i = 0; i < 6; i++) {
        all.add(x.element(s, i));
      }
    }
  }

  /** A refused call leaves all as it was, but for how many such REFUSALS there were. */
  static void leaves(String what, Supplier<GravelHasTheLastWord> made, ToLongFunction<GravelHasTheLastWord> call, int why) {
    GravelHasTheLastWord one = made.get();
    due(what, call.applyAsLong(one), why);
    List<Long> want = shown(made.get());
    int count = 10 - why;
    want.set(count, want.get(count) + 1);
    same(what, shown(one), want);
  }

  /** A call that only asks isn't refused, and leaves all as it was, REFUSALS too. */
  static void changesNothing(String what, ToLongFunction<GravelHasTheLastWord> call) {
    GravelHasTheLastWord one = lived();
    long answer = call.applyAsLong(one);
    due(what + " is refused", answer <= BAD && answer >= FULL ? 1 : 0, 0);
    same(what, shown(one), shown(lived()));
  }

  private static void same(String what, List<Long> got, List<Long> want) {
    due(what + ", how much is shown", got.size(), want.size());
    for (int i = 0; i < want.size() && i < got.size(); i++) {
      due(what + ", shown at " + i, got.get(i), want.get(i));
    }
  }
}
