import java.lang.reflect.InvocationTargetException;
import java.lang.reflect.Method;
import java.util.Arrays;
import java.util.List;

/**
 * Rules 7 and 13 of LANGUAGE.md: no call throws, for any arguments in any state, and the same calls give the same answers.
 * Numbers at and about every bound of the document, in all positions, on objects of every SIDE, one behind another.
 */
public final class AnyCallTest {
  private static final int[] MANY = {
    Integer.MIN_VALUE, Integer.MIN_VALUE + 1, -65536, -257, -256, -41, -9, -7, -6, -5, -4, -3, -2, -1, 0, 1, 2, 3, 4, 5, 6, 7, 8, 9, 10,
    11, 12, 15, 16, 17, 24, 25, 35, 36, 39, 40, 41, 59, 60, 61, 98, 99, 100, 249, 250, 255, 256, 65536, Integer.MAX_VALUE - 1,
    Integer.MAX_VALUE
  };
  private static final int[] SOME = {Integer.MIN_VALUE, -2, -1, 0, 1, 2, 3, 5, 6, 7, 8, 9, 40, 99, Integer.MAX_VALUE};
  private static final int[] FEW = {Integer.MIN_VALUE, -1, 0, 1, 2, 5, Integer.MAX_VALUE};
  private static final int[] LEAST_FEW = {Integer.MIN_VALUE, -1, 0, 1, 5, Integer.MAX_VALUE};
  private static final int[][] BY_COUNT = {{}, MANY, MANY, SOME, FEW, LEAST_FEW};

  private static int asked = 0;
  private static int wrong = 0;

  /** An object of a SIDE with as many FEET as told, SHELVES of every kind, a TAPE, and less FEET kept than there are. */
  private static GravelHasTheLastWord made(int side, int feet) {
    GravelHasTheLastWord x = new GravelHasTheLastWord();
    x.side(side);
    for (int f = 0; f < feet; f++) {
      if (f == feet / 2) {
        x.image();
      }
      x.feet(f % 6, f, 1 + 12 * f);
      x.show(f % 2, f);
    }
    for (int cell = 0; cell < side * side; cell += 2) {
      x.gravel(cell, cell % 10);
    }
    for (int sort = 0; sort < 5; sort++) {
      x.row(2 + sort, sort, sort == 4 ? 0 : 5 + sort);
      for (int i = 0; i < 9; i++) {
        x.set(2 + sort, i, sort == 3 && i == side ? Long.MIN_VALUE : (long) i * side);
      }
    }
    x.feed('r');
    return x;
  }

  private static long answer(GravelHasTheLastWord x, Method m, int[] numbers) throws ReflectiveOperationException {
    asked++;
    try {
      return Edges.answer(x, m, numbers);
    } catch (InvocationTargetException e) {
      wrong++;
      System.out.println(m.getName() + Arrays.toString(numbers) + " threw " + e.getCause());
      return 0;
    }
  }

  /** Whether a call may answer that: what it tells, or one of the REFUSALS; a FAULT of a TAPE is -20 or less. */
  private static boolean mayAnswer(Method m, long answer) {
    boolean isAny = m.getName().equals("element") || m.getName().equals("seed") || m.getName().equals("status");
    boolean isFault = m.getName().equals("drive") && answer <= -20 && answer >= -270;
    return isAny || isFault || answer >= -6;
  }

  private static void all(GravelHasTheLastWord x, GravelHasTheLastWord twin, Method m, int[] numbers, int place)
      throws ReflectiveOperationException {
    if (place < numbers.length) {
      for (int number : BY_COUNT[numbers.length]) {
        numbers[place] = number;
        all(x, twin, m, numbers, place + 1);
      }
      return;
    }
    long got = answer(x, m, numbers);
    if (!mayAnswer(m, got) || answer(twin, m, numbers) != got) {
      wrong++;
      System.out.println(m.getName() + Arrays.toString(numbers) + " answered " + got + ", its twin another, or it may not");
    }
  }

  public static void main(String[] args) throws ReflectiveOperationException {
    List<Method> calls = Edges.calls();
    for (int side = 2; side <= 6; side++) {
      for (int feet = 0; feet <= 8; feet += 4) {
        GravelHasTheLastWord x = made(side, feet);
        GravelHasTheLastWord twin = made(side, feet);
        for (Method m : calls) {
          all(x, twin, m, new int[m.getParameterCount()], 0);
        }
        // What lays all anew must not be all that there is to ask behind it: each call on an object of its own, too.
        for (Method m : calls) {
          all(made(side, feet), made(side, feet), m, new int[m.getParameterCount()], 0);
        }
      }
    }
    System.out.println(asked + " calls, " + wrong + " wrong");
    if (wrong != 0) System.exit(1);
  }
}
