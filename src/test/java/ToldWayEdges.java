/** Told WAYS at their edges: promises 45 to 47. */
public final class ToldWayEdges extends Edges {
  public static void main(String[] args) {
    run(ToldWayEdges.class);
  }

  /** WRONG of the elements, all of them told, on a drive of that SIDE. */
  private static int wrong(int side, long... cells) {
    return fill(evenly(side, 3), 0, 3, cells).judge(0, cells.length);
  }

  // ---- 45: judge

  @Of(promise = 45, says = "WRONG of a told WAY by the first n elements (0 to 40) of the ROW in SHELF s; NONE.")
  static void p45_right() {
    due("SIDE 2", wrong(2, 0, 3), NONE);
    due("SIDE 3", wrong(3, 2, 4, 6), NONE);
    due("SIDE 4", wrong(4, 0, 5, 10, 15), NONE);
    due("SIDE 5", wrong(5, 4, 9, 14, 19, 24), NONE);
    due("SIDE 6", wrong(6, 5, 10, 15, 20, 25, 30), NONE);
    due("STRAIGHT up the first COLUMN", wrong(6, 0, 6, 12, 18, 24, 30), NONE);
    due("STRAIGHT up the last", wrong(6, 5, 11, 17, 23, 29, 35), NONE);
  }

  @Of(promise = 45, says = "WRONG: the first that isn't in its ROW")
  static void p45_notInItsRow() {
    for (int n = 3; n <= 6; n++) {
      long[] way = new long[n];
      for (int r = 0; r < n; r++) {
        way[r] = r * n;
      }
      for (int r = 0; r < n; r++) {
        long[] beyond = {r * n - 1, r * n + n, -1, n * n, 99, LEAST, MOST, Long.MIN_VALUE, Long.MAX_VALUE, (1L << 32) + r * n};
        for (long cell : beyond) {
          long[] told = way.clone();
          told[r] = cell;
          due("SIDE " + n + ", CELL " + cell + " in ROW " + r, wrong(n, told), r);
        }
        way[r] += 1;
        due("the CELL beside", wrong(n, way), NONE);
        way[r] -= 1;
      }
      due("the last COLUMN", wrong(n, n - 1, 2 * n - 1), 2);
    }
  }

  @Of(promise = 45, says = "or not beside the one ahead as told")
  static void p45_notBeside() {
    due("one to the right", wrong(4, 1, 6, 11, 15), NONE);
    due("one to the left", wrong(4, 3, 6, 9, 12), NONE);
    due("two to the right", wrong(4, 0, 6, 10, 14), 1);
    due("two to the left", wrong(4, 2, 4, 8, 12), 1);
    due("two to the right at the door", wrong(4, 1, 5, 9, 15), 3);
    due("two to the left at the door", wrong(4, 2, 6, 10, 12), 3);
    due("from the last COLUMN to the first", wrong(3, 2, 3, 6), 1);
    due("from the first COLUMN to the last", wrong(3, 0, 5, 8), 1);
    due("the CELL behind, in the next ROW", wrong(3, 2, 3, 7), 1);
    due("the first of two", wrong(3, 0, 5, 6), 1);
  }

  @Of(promise = 45, says = "its length, if that is less than n and nothing else is wrong; NONE.")
  static void p45_length() {
    for (int n = 2; n <= 6; n++) {
      GravelHasTheLastWord x = fill(evenly(n, 3), 0, 2, 0, n, 2 * n, 3 * n, 4 * n, 5 * n, 6 * n);
      for (int length = 0; length <= 7; length++) {
        due("length " + length + " on SIDE " + n, x.judge(0, length), length == n ? NONE : Math.min(length, n));
      }
    }
    due("too short, and something else", wrong(4, 0, 6), 1);
    due("too short, and the first", wrong(4, 4), 0);
    due("too short alone", wrong(4, 0, 5, 9), 3);
  }

  @Of(promise = 45, says = "WRONG: the first that isn't in its ROW")
  static void p45_tooLong() {
    GravelHasTheLastWord x = fresh();
    x.row(0, 2, 40);
    int[] cells = {0, 4, 8, 12, 16};
    for (int i = 0; i < cells.length; i++) {
      x.set(0, i, cells[i]);
    }
    due("one too many", x.judge(0, 5), 4);
    due("40", x.judge(0, 40), 4);
    due("just as many", x.judge(0, 4), NONE);
    x.set(0, 2, 0);
    due("something ahead of that", x.judge(0, 40), 2);
    due("side 6 at the door's ROW", wrong(6, 0, 6, 12, 18, 24, 30, 30), 6);
  }

  @Of(promise = 45, says = "A told WAY: a ROW of CELLS")
  static void p45_sorts() {
    GravelHasTheLastWord x = evenly(2, 3);
    for (int sort = 0; sort < 4; sort++) {
      due("sort " + sort, fill(x, 0, sort, 1, 2).judge(0, 2), NONE);
    }
    due("booleans", fill(x, 0, 4, 1, 2).judge(0, 2), 1);
    due("a byte that came round", fill(x, 0, 0, 257, 258).judge(0, 2), NONE);
    due("a short that came round", fill(x, 0, 1, 65536, 3).judge(0, 2), NONE);
    due("an int that came round", fill(x, 0, 2, 1, (1L << 32) + 2).judge(0, 2), NONE);
    due("a long", fill(x, 0, 3, 1, (1L << 32) + 2).judge(0, 2), 1);
    due("a byte less than 0", fill(x, 0, 0, 255, 2).judge(0, 2), 0);
    due("an empty ROW", fill(x, 0, 0).judge(0, 0), 0);
  }

  @Of(promise = 45, says = "BAD SHELF, n; OTHER; NOTHING; BAD: fewer elements.")
  static void p45_numbers() {
    takes("SHELF", 0, 7, s -> fill(evenly(2, 3), Math.floorMod(s, 8), 2, 0, 2).judge(s, 2), NONE);
    GravelHasTheLastWord x = fresh();
    x.row(0, 2, 40);
    for (int n = 0; n <= 40; n++) {
      due("n " + n, x.judge(0, n), n == 0 ? 0 : 1);
    }
    refuses("n", 0, 40, n -> x.judge(0, n), BAD);
    x.row(0, 2, 39);
    due("40 of 39", x.judge(0, 40), BAD);
    x.row(0, 2, 0);
    due("1 of none", x.judge(0, 1), BAD);
  }

  @Of(promise = 45, says = "BAD SHELF, n; OTHER; NOTHING; BAD: fewer elements.")
  static void p45_twoReasons() {
    GravelHasTheLastWord x = lived();
    due("FEET", x.judge(2, 40), OTHER);
    due("FEET and n", x.judge(2, 41), BAD);
    due("NOTHING", x.judge(6, 40), NOTHING);
    due("NOTHING and n", x.judge(6, -1), BAD);
    due("SHELF and n", x.judge(8, 41), BAD);
    due("fewer elements", x.judge(5, 3), BAD);
    due("WRONG isn't refused", x.judge(0, 3), 0);
    due("each counted as what it is", x.status(12) * 100 + x.status(13) * 10 + x.status(14), 411);
  }

  @Of(promise = 45, says = "by the first n elements (0 to 40) of the ROW in SHELF s")
  static void p45_lastShelf() {
    GravelHasTheLastWord x = evenly(2, 3);
    fill(x, 0, 2, 3, 3, 3);
    fill(x, 7, 2, 1, 2, 9);
    due("the last SHELF", x.judge(7, 2), NONE);
    due("the first", x.judge(0, 2), 0);
  }

  // ---- 46: loud

  @Of(promise = 46, says = "LOUD: all CRUNCHES of it by FEET together")
  static void p46_all() {
    GravelHasTheLastWord x = feet(evenly(6, 9), SPUR, 9, 1);
    fill(x, 0, 2, 5, 10, 15, 20, 25, 30);
    due("the most", x.loud(0, 6, 0, 0), 219);
    x.ask(0, 9);
    due("nothing", x.loud(0, 6, 0, 0), 0);
    GravelHasTheLastWord y = fill(foot("12 34"), 0, 2, 0, 3, 99);
    due("elements behind are none of it", y.loud(0, 2, 0, 0), 5);
    GravelHasTheLastWord z = fill(feet(evenly(3, 3), LAME, 0, 1), 0, 2, 0, 4, 8);
    due("by ROWS", z.loud(0, 3, 0, 0), 7);
  }

  @Of(promise = 46, says = "as the how manieth of the WAY (0 on) a CELL is HEARD first; NONE")
  static void p46_heard() {
    GravelHasTheLastWord x = fill(foot("433 343 334"), 0, 2, 0, 4, 8);
    due("at the gate", x.loud(0, 3, 0, 1), 0);
    x.gravel(0, 3);
    due("as EAR, the next", x.loud(0, 3, 0, 1), 1);
    x.gravel(4, 3);
    due("at the door", x.loud(0, 3, 0, 1), 2);
    x.gravel(8, 3);
    due("never", x.loud(0, 3, 0, 1), NONE);
    due("NONE isn't refused", x.status(12) + x.status(15), 0);
    ears(x, 0, 3);
    due("by EAR 3", x.loud(0, 3, 0, 1), 0);
    due("LAME by ROWS", ears(fill(feet(evenly(2, 3), LAME, 0, 1), 0, 2, 0, 2), 0, 1).loud(0, 2, 0, 1), 0);
    due("SPUR by ROWS", ears(fill(feet(evenly(2, 3), SPUR, 0, 1), 0, 2, 0, 2), 0, 7).loud(0, 2, 0, 1), 1);
    due("elements behind", fill(foot("39 33"), 0, 2, 0, 2, 1).loud(0, 2, 0, 1), NONE);
    due("the first CELL isn't behind", fill(foot("93 33"), 0, 2, 1, 2).loud(0, 2, 0, 1), NONE);
    due("no GRAVEL", ears(fill(feet(evenly(2, 0), SPUR, 9, 1), 0, 2, 0, 2), 0, 1).loud(0, 2, 0, 1), NONE);
  }

  @Of(promise = 46, says = "LOUD by FEET: all CRUNCHES (what 0), the first HEARD (1; NONE).")
  static void p46_lastOfEight() {
    GravelHasTheLastWord x = ears(crowd(drive("19 39"), FOOT, 0, 1), 0, 3);
    fill(x, 0, 2, 1, 3);
    fill(x, 7, 2, 0, 2);
    due("the last, all", x.loud(7, 2, 7, 0), 4);
    due("the last, the first HEARD", x.loud(7, 2, 7, 1), 1);
    due("another SHELF, all", x.loud(0, 2, 7, 0), 18);
    due("another SHELF, the first HEARD", x.loud(0, 2, 7, 1), 0);
    due("others of the FEET, all", x.loud(7, 2, 6, 0), 0);
    due("others of the FEET, the first HEARD", x.loud(7, 2, 6, 1), NONE);
  }

  @Of(promise = 46, says = "BAD SHELF, n, feet, what")
  static void p46_numbers() {
    takes("SHELF", 0, 7, s -> fill(foot("33 33"), Math.floorMod(s, 8), 2, 0, 2).loud(s, 2, 0, 0), 6);
    takesFeet((x, f) -> fill(x, 0, 2, 0, 4, 8, 12).loud(0, 4, f, 0), 12);
    GravelHasTheLastWord x = fill(foot("33 33"), 0, 2, 0, 2);
    refuses("what", 0, 1, what -> x.loud(0, 2, 0, what), BAD);
    x.row(1, 2, 40);
    takes("n", 0, 40, n -> x.loud(1, n, 0, 0), STUCK);
  }

  @Of(promise = 46, says = "BAD: fewer elements; STUCK: it is WRONG. (NONE isn't refused.)")
  static void p46_wrong() {
    GravelHasTheLastWord x = fill(foot("33 33"), 0, 2, 0, 2, 4);
    due("right", x.loud(0, 2, 0, 0), 6);
    due("too short", x.loud(0, 1, 0, 0), STUCK);
    due("none at all", x.loud(0, 0, 0, 0), STUCK);
    due("too long", x.loud(0, 3, 0, 0), STUCK);
    due("fewer elements", x.loud(0, 4, 0, 0), BAD);
    x.set(0, 0, 2);
    due("WRONG from the gate on", x.loud(0, 2, 0, 1), STUCK);
    x.set(0, 0, 1);
    x.set(0, 1, 4);
    due("WRONG at the door", x.loud(0, 2, 0, 1), STUCK);
    fill(x, 0, 3, 0, (1L << 32) + 2);
    due("a long isn't cut", x.loud(0, 2, 0, 0), STUCK);
    due("STUCK counted", x.status(15), 6);
  }

  @Of(promise = 46, says = "BAD SHELF, n, feet, what; OTHER; NOTHING; BAD: fewer elements; STUCK: it is WRONG.")
  static void p46_twoReasons() {
    GravelHasTheLastWord x = lived();
    due("FEET on the SHELF", x.loud(2, 40, 0, 0), OTHER);
    due("NOTHING", x.loud(6, 40, 0, 0), NOTHING);
    due("FEET on the SHELF and n", x.loud(2, 41, 0, 0), BAD);
    due("FEET on the SHELF and no such FEET", x.loud(2, 3, 3, 0), BAD);
    due("NOTHING and what", x.loud(6, 3, 0, 2), BAD);
    due("SHELF", x.loud(8, 3, 0, 0), BAD);
    due("WRONG and no such FEET", x.loud(0, 3, 3, 0), BAD);
    due("WRONG and what", x.loud(0, 3, 0, -1), BAD);
    due("fewer elements, and WRONG", x.loud(1, 6, 0, 0), BAD);
    due("WRONG", x.loud(1, 5, 0, 0), STUCK);
    int all = x.status(12) * 1000 + x.status(13) * 100 + x.status(14) * 10 + x.status(15);
    due("each counted as what it is", all, 7111);
  }

  // ---- 47: done

  @Of(promise = 47, says = "It is gone in truth by FEET: all CRUNCHES (as it was ahead).")
  static void p47_asItWasAhead() {
    GravelHasTheLastWord x = fill(feet(evenly(6, 9), SPUR, 9, 1), 0, 2, 5, 10, 15, 20, 25, 30);
    due("the most", x.done(0, 6, 0), 219);
    due("then", x.done(0, 6, 0), 207);
    due("all GRAVEL", x.status(4), 312);
    GravelHasTheLastWord y = fill(foot("11 11"), 0, 2, 1, 2);
    due("a last time", y.done(0, 2, 0), 2);
    due("nothing is left", y.done(0, 2, 0), 0);
  }

  @Of(promise = 47, says = "IN TRUTH: a WAY gone by FEET: GRAVEL of all its CELLS is 1 less (0 at least).")
  static void p47_oneLess() {
    GravelHasTheLastWord x = fill(foot("10 29"), 0, 2, 1, 3, 0);
    due("done", x.done(0, 2, 0), 9);
    dueAll("GRAVEL", cell -> x.cellOf(cell, 0), 1, 0, 2, 8);
    for (int i = 0; i < 9; i++) {
      x.done(0, 2, 0);
    }
    dueAll("GRAVEL", cell -> x.cellOf(cell, 0), 1, 0, 2, 0);
    GravelHasTheLastWord y = fill(ears(foot("99 99"), 9, 1), 0, 2, 0, 2);
    due("in the RAIN", y.done(0, 2, 0), 0);
    dueAll("GRAVEL, not WET", cell -> y.cellOf(cell, 0), 8, 9, 8, 9);
  }

  @Of(promise = 47, says = "It is gone in truth by FEET: all CRUNCHES (as it was ahead).")
  static void p47_lastOfEight() {
    GravelHasTheLastWord x = crowd(drive("19 39"), FOOT, 0, 1);
    fill(x, 0, 2, 1, 3);
    fill(x, 7, 2, 0, 2);
    due("the last", x.done(7, 2, 7), 4);
    dueAll("GRAVEL", cell -> x.cellOf(cell, 0), 0, 9, 2, 9);
    due("others of the FEET", x.done(0, 2, 6), 12);
    dueAll("GRAVEL", cell -> x.cellOf(cell, 0), 0, 8, 2, 8);
  }

  @Of(promise = 47, says = "BAD; OTHER; NOTHING; BAD; STUCK likewise.")
  static void p47_numbers() {
    takes("SHELF", 0, 7, s -> fill(foot("33 33"), Math.floorMod(s, 8), 2, 0, 2).done(s, 2, 0), 6);
    takesFeet((x, f) -> fill(ears(x, 3, 4), 0, 2, 0, 4, 8, 12).done(0, 4, f), 0);
    GravelHasTheLastWord x = foot("33 33");
    x.row(1, 2, 40);
    takes("n", 0, 40, n -> x.done(1, n, 0), STUCK);
    due("nothing is gone", x.status(4), 12);
  }

  @Of(promise = 47, says = "BAD; OTHER; NOTHING; BAD; STUCK likewise.")
  static void p47_twoReasons() {
    GravelHasTheLastWord x = lived();
    due("FEET on the SHELF", x.done(2, 40, 0), OTHER);
    due("NOTHING", x.done(6, 40, 0), NOTHING);
    due("FEET on the SHELF and n", x.done(2, 41, 0), BAD);
    due("FEET on the SHELF and no such FEET", x.done(2, 3, 3), BAD);
    due("NOTHING and n", x.done(6, -1, 0), BAD);
    due("SHELF", x.done(8, 3, 0), BAD);
    due("WRONG and no such FEET", x.done(0, 3, 3), BAD);
    due("fewer elements, and WRONG", x.done(1, 6, 0), BAD);
    due("WRONG", x.done(1, 5, 0), STUCK);
    due("too short", x.done(0, 0, 0), STUCK);
    int all = x.status(12) * 1000 + x.status(13) * 100 + x.status(14) * 10 + x.status(15);
    due("each counted as what it is", all, 6112);
    due("all GRAVEL stays", x.status(4), 27);
  }
}
