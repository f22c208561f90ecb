/** WAYS and what comes of them at their edges: promises 19 to 22, 29 to 33, 39, 40 and 42 to 44. */
public final class WayEdges extends Edges {
  private static final int[] STRAIGHT_UP_SIX = {0, 6, 12, 18, 24, 30};

  public static void main(String[] args) {
    run(WayEdges.class);
  }

  private static GravelHasTheLastWord loudestOfAll() {
    return feet(evenly(6, 9), SPUR, 9, 1);
  }

  private static void quietest(GravelHasTheLastWord x, int all, int... cells) {
    way("quietest", i -> x.quietest(0, i), all, cells);
  }

  private static void softest(GravelHasTheLastWord x, int all, int... cells) {
    way("softest", i -> x.softest(0, i), all, cells);
  }

  private static void loudest(GravelHasTheLastWord x, int all, int... cells) {
    way("loudest", i -> x.loudest(0, i), all, cells);
  }

  private static void unheard(GravelHasTheLastWord x, int all, int... cells) {
    way("unheard", i -> x.unheard(0, i), all, cells);
  }

  /** CELLS that a call tells: how many, each of them, and that there are not so many for any i behind. */
  private static void found(String what, java.util.function.IntUnaryOperator call, int many, int... cells) {
    due(what + " NONE", call.applyAsInt(NONE), many);
    dueAll(what, call, cells);
    int[] behind = {cells.length, cells.length + 1, 2, 3, 35, 36, MOST - 1, MOST};
    for (int i : behind) {
      due(what + " " + i, call.applyAsInt(i), STUCK);
    }
    int[] ahead = {-2, -3, LEAST, LEAST + 1};
    for (int i : ahead) {
      due(what + " " + i, call.applyAsInt(i), BAD);
    }
  }

  private static void raked(GravelHasTheLastWord x, int many, int... cells) {
    found("raked", i -> x.raked(0, i), many, cells);
  }

  private static void planks(GravelHasTheLastWord x, int many, int... cells) {
    found("planks", i -> x.planks(0, i), many, cells);
  }

  // ---- 19: quietest

  @Of(promise = 19, says = "QUIETEST: all CRUNCHES (i NONE), the i-th CELL. BAD.")
  static void p19_everySide() {
    quietest(foot("33 33"), 6, 0, 2);
    quietest(foot("333 333 333"), 9, 0, 3, 6);
    quietest(foot("3333 3333 3333 3333"), 12, 0, 4, 8, 12);
    quietest(feet(evenly(5, 3), FOOT, 0, 1), 15, 0, 5, 10, 15, 20);
    quietest(feet(evenly(6, 3), FOOT, 0, 1), 18, STRAIGHT_UP_SIX);
  }

  @Of(promise = 19, says = "QUIETEST of FEET: the WAY whose CRUNCHES together are least")
  static void p19_noneAndMost() {
    quietest(feet(evenly(6, 0), FOOT, 9, 1), 0, STRAIGHT_UP_SIX);
    quietest(ears(loudestOfAll(), 9, 1), 0, STRAIGHT_UP_SIX);
    quietest(ears(loudestOfAll(), 8, 1), 123, STRAIGHT_UP_SIX);
    quietest(loudestOfAll(), 219, STRAIGHT_UP_SIX);
    quietest(feet(evenly(6, 9), LAME, 9, 1), 81, STRAIGHT_UP_SIX);
  }

  @Of(promise = 19, says = "of several the first by rows of CELLS")
  static void p19_ties() {
    quietest(foot("111 511 111"), 3, 0, 4, 6);
    quietest(foot("919 111 111"), 3, 1, 3, 6);
    quietest(foot("111 991 111"), 3, 1, 5, 7);
    quietest(foot("291 192 191"), 4, 0, 3, 6);
    quietest(foot("991 991 991"), 3, 2, 5, 8);
    quietest(foot("12 21"), 2, 0, 3);
  }

  @Of(promise = 19, says = "each next one is in the same COLUMN, or one to the left or right")
  static void p19_noWayLeadsRound() {
    quietest(foot("199 991 991"), 11, 0, 4, 8);
    quietest(foot("991 199 199"), 11, 0, 3, 6);
    quietest(foot("1999 9991 9999 9999"), 28, 0, 4, 8, 12);
    quietest(foot("9991 1999 9999 9999"), 28, 0, 4, 8, 12);
  }

  @Of(promise = 19, says = "A WAY has n CELLS, one of each ROW, from ROW 0 on")
  static void p19_stepsByRows() {
    quietest(feet(evenly(3, 3), LAME, 0, 1), 7, 0, 3, 6);
    quietest(feet(evenly(3, 3), SPUR, 0, 1), 19, 0, 3, 6);
    quietest(feet(evenly(2, 3), SPUR, 0, 1), 13, 0, 2);
  }

  @Of(promise = 19, says = "BAD.")
  static void p19_feet() {
    takesFeet((x, f) -> x.quietest(f, NONE), 12);
    takesFeet((x, f) -> x.quietest(f, 3), 12);
    takesFeet((x, f) -> x.quietest(f, 4), BAD);
  }

  @Of(promise = 19, says = "FEET have numbers, 0 on, 8 at most")
  static void p19_lastOfEight() {
    GravelHasTheLastWord x = crowd(drive("12 21"), FOOT, 0, 1);
    way("quietest of the last", i -> x.quietest(7, i), 2, 0, 3);
    way("quietest of another", i -> x.quietest(6, i), 0, 0, 2);
    GravelHasTheLastWord y = crowd(evenly(6, 9), SPUR, 9, 1);
    way("quietest of the last", i -> y.quietest(7, i), 219, STRAIGHT_UP_SIX);
  }

  // ---- 20: softest

  @Of(promise = 20, says = "SOFTEST: its greatest CRUNCH (i NONE), the i-th CELL. BAD.")
  static void p20_everySide() {
    softest(foot("33 33"), 3, 0, 2);
    softest(foot("333 333 333"), 3, 0, 3, 6);
    softest(foot("3333 3333 3333 3333"), 3, 0, 4, 8, 12);
    softest(feet(evenly(5, 3), FOOT, 0, 1), 3, 0, 5, 10, 15, 20);
    softest(feet(evenly(6, 3), FOOT, 0, 1), 3, STRAIGHT_UP_SIX);
  }

  @Of(promise = 20, says = "SOFTEST: the WAY whose greatest CRUNCH is least")
  static void p20_noneAndMost() {
    softest(feet(evenly(6, 0), FOOT, 9, 1), 0, STRAIGHT_UP_SIX);
    softest(ears(loudestOfAll(), 9, 1), 0, STRAIGHT_UP_SIX);
    softest(loudestOfAll(), 37, STRAIGHT_UP_SIX);
    softest(foot("911 199 911"), 1, 1, 3, 7);
    softest(foot("222 111 111"), 2, 0, 3, 6);
    softest(foot("111 111 555"), 5, 0, 3, 6);
    softest(foot("31 31"), 1, 1, 3);
    softest(foot("11 21"), 1, 0, 3);
    softest(foot("111 211 211"), 1, 0, 4, 7);
    softest(foot("111 111 322"), 2, 0, 3, 7);
  }

  @Of(promise = 20, says = "the WAY whose greatest CRUNCH is least, of several the first")
  static void p20_ties() {
    softest(foot("311 331 333"), 3, 0, 3, 6);
    softest(foot("555 911 911"), 5, 0, 4, 7);
    softest(foot("555 911 311"), 5, 0, 4, 6);
    softest(foot("511 911 911"), 1, 1, 4, 7);
    softest(foot("111 991 119"), 1, 1, 5, 7);
  }

  @Of(promise = 20, says = "BAD.")
  static void p20_feet() {
    takesFeet((x, f) -> x.softest(f, NONE), 3);
    takesFeet((x, f) -> x.softest(f, 3), 12);
    takesFeet((x, f) -> x.softest(f, 4), BAD);
  }

  @Of(promise = 20, says = "FEET have numbers, 0 on, 8 at most")
  static void p20_lastOfEight() {
    GravelHasTheLastWord x = crowd(drive("12 21"), FOOT, 0, 1);
    way("softest of the last", i -> x.softest(7, i), 1, 0, 3);
    way("softest of another", i -> x.softest(6, i), 0, 0, 2);
  }

  // ---- 21: unheard

  @Of(promise = 21, says = "UNHEARD: how many (i NONE), the i-th CELL of the first.")
  static void p21_everySide() {
    unheard(foot("33 33"), 4, 0, 2);
    unheard(foot("333 333 333"), 17, 0, 3, 6);
    unheard(foot("3333 3333 3333 3333"), 68, 0, 4, 8, 12);
    unheard(feet(evenly(5, 3), FOOT, 0, 1), 259, 0, 5, 10, 15, 20);
    unheard(feet(evenly(6, 3), FOOT, 0, 1), 950, STRAIGHT_UP_SIX);
  }

  @Of(promise = 21, says = "It is HEARD, if it is EAR at least.")
  static void p21_ear() {
    unheard(ears(foot("33 33"), 0, 4), 4, 0, 2);
    due("as loud as EAR", ears(foot("33 33"), 0, 3).unheard(0, NONE), 0);
    unheard(ears(foot("32 23"), 0, 3), 1, 1, 2);
    unheard(ears(loudestOfAll(), 0, 99), 950, STRAIGHT_UP_SIX);
    unheard(ears(loudestOfAll(), 0, 38), 950, STRAIGHT_UP_SIX);
    due("37 is heard", ears(loudestOfAll(), 0, 37).unheard(0, NONE), 0);
    unheard(ears(feet(evenly(6, 0), FOOT, 9, 1), 0, 1), 950, STRAIGHT_UP_SIX);
    unheard(ears(loudestOfAll(), 9, 1), 950, STRAIGHT_UP_SIX);
    due("WET 1 is heard by EAR 1", ears(loudestOfAll(), 8, 1).unheard(0, NONE), 0);
  }

  @Of(promise = 21, says = "UNHEARD: how many WAYS have no CRUNCH that is HEARD; the first by rows of CELLS.")
  static void p21_oneOrFew() {
    unheard(foot("199 919 991"), 1, 0, 4, 8);
    unheard(foot("991 919 199"), 1, 2, 4, 6);
    unheard(foot("911 191 991"), 2, 1, 5, 8);
    unheard(foot("111 991 991"), 2, 1, 5, 8);
    unheard(foot("919 111 919"), 3, 1, 3, 7);
    unheard(foot("191 991 991"), 1, 2, 5, 8);
  }

  @Of(promise = 21, says = "BAD; STUCK: there is none.")
  static void p21_none() {
    for (int n = 2; n <= 6; n++) {
      GravelHasTheLastWord x = feet(evenly(n, 4), FOOT, 0, 1);
      due("how many", x.unheard(0, NONE), 0);
      for (int i = 0; i < n; i++) {
        due("none and i " + i, x.unheard(0, i), STUCK);
      }
      refuses("none and i", NONE, n - 1, i -> x.unheard(0, i), BAD);
      refuses("none and FEET", 0, 0, f -> x.unheard(f, 0), BAD);
      due("STUCK counted", x.status(15), n);
    }
    due("no WAY leads round", foot("199 991 991").unheard(0, 0), STUCK);
    due("nor from ROW to ROW", foot("991 199 199").unheard(0, 0), STUCK);
  }

  @Of(promise = 21, says = "BAD")
  static void p21_feet() {
    takesFeet((x, f) -> x.unheard(f, NONE), 68);
    takesFeet((x, f) -> x.unheard(f, 3), 12);
    takesFeet((x, f) -> x.unheard(f, 4), BAD);
  }

  @Of(promise = 21, says = "FEET have numbers, 0 on, 8 at most")
  static void p21_lastOfEight() {
    GravelHasTheLastWord x = ears(crowd(drive("12 21"), FOOT, 0, 1), 0, 2);
    way("unheard, the last", i -> x.unheard(7, i), 1, 0, 3);
    way("unheard, another", i -> x.unheard(6, i), 4, 0, 2);
    x.ask(1, 1);
    due("none of the last", x.unheard(7, 0), STUCK);
    due("some of another", x.unheard(6, 1), 2);
  }

  // ---- 22: raked

  @Of(promise = 22, says = "RAKED: how many (i NONE; NONE), the i-th. BAD; STUCK: not so many. (NONE isn't refused.)")
  static void p22_zeroToTwo() {
    raked(foot("44 33"), 0);
    raked(foot("93 33"), 1, 1);
    raked(foot("33 33"), 2, 0, 1);
    raked(foot("333 333 333"), NONE);
    GravelHasTheLastWord x = foot("333 333 333");
    x.raked(0, NONE);
    due("NONE isn't refused", x.status(12) + x.status(15), 0);
  }

  @Of(promise = 22, says = "RAKED: the fewest CELLS (0 to 2) that must have GRAVEL 9, so that no WAY is UNHEARD")
  static void p22_fewest() {
    raked(foot("33 93"), 1, 3);
    raked(foot("93 39"), 1, 1);
    raked(foot("333 393 333"), 2, 3, 5);
    raked(foot("333 939 333"), 1, 4);
    raked(foot("333 933 333"), 2, 4, 5);
    raked(feet(evenly(6, 3), FOOT, 0, 1), NONE);
    due("the most everywhere", feet(evenly(6, 9), FOOT, 0, 1).raked(0, NONE), 0);
    due("no GRAVEL anywhere", feet(evenly(6, 0), FOOT, 0, 1).raked(0, NONE), NONE);
    raked(foot("00 00"), 2, 0, 1);
  }

  @Of(promise = 22, says = "of several the first by rows: how many (NONE: two aren't enough); the i-th")
  static void p22_ties() {
    raked(foot("39 39"), 1, 0);
    raked(foot("93 39"), 1, 1);
    raked(foot("939 939 939"), 1, 1);
    raked(foot("339 339 339"), 2, 0, 1);
    raked(foot("933 339 333"), 2, 1, 2);
    raked(foot("333333 333333 333333 333333 333333 999933"), 2, 34, 35);
    raked(foot("333333 333333 333333 333333 333333 999993"), 1, 35);
    raked(foot("333333 333333 333333 333333 933339 399993"), 2, 25, 28);
  }

  @Of(promise = 22, says = "that must have GRAVEL 9, so that no WAY is UNHEARD")
  static void p22_nineMayNotBeHeard() {
    raked(ears(foot("33 33"), 5, 4), 2, 0, 1);
    raked(ears(foot("33 33"), 6, 4), NONE);
    raked(ears(foot("33 33"), 9, 1), NONE);
    raked(ears(foot("33 33"), 8, 1), 2, 0, 1);
    raked(ears(foot("33 33"), 0, 9), 2, 0, 1);
    raked(ears(foot("33 33"), 0, 10), NONE);
    raked(ears(foot("99 99"), 0, 10), NONE);
    raked(ears(feet(drive("33 39"), LAME, 0, 1), 0, 5), 2, 0, 1);
    raked(ears(feet(drive("33 33"), SPUR, 0, 1), 0, 19), 2, 2, 3);
    raked(ears(feet(drive("33 33"), SPUR, 0, 1), 0, 20), NONE);
  }

  @Of(promise = 22, says = "BAD; STUCK: not so many.")
  static void p22_feet() {
    takesFeet((x, f) -> x.raked(f, NONE), NONE);
    takesFeet((x, f) -> x.raked(f, 0), STUCK);
    takesFeet((x, f) -> x.raked(f, MOST), STUCK);
    takesFeet((x, f) -> x.raked(f, -2), BAD);
  }

  @Of(promise = 22, says = "FEET have numbers, 0 on, 8 at most")
  static void p22_lastOfEight() {
    GravelHasTheLastWord x = ears(crowd(drive("33 33"), FOOT, 0, 1), 0, 9);
    found("raked, the last", i -> x.raked(7, i), 2, 0, 1);
    found("raked, another", i -> x.raked(6, i), NONE);
    GravelHasTheLastWord y = ears(crowd(drive("12 21"), FOOT, 0, 1), 0, 2);
    found("raked, the last", i -> y.raked(7, i), 1, 0);
    found("raked, another", i -> y.raked(6, i), 2, 0, 1);
  }

  // ---- 29: loudest

  @Of(promise = 29, says = "The WAY whose CRUNCHES together are most, of several the first by rows: all CRUNCHES (i NONE), the i-th CELL. BAD.")
  static void p29_everySide() {
    loudest(foot("33 33"), 6, 0, 2);
    loudest(foot("333 333 333"), 9, 0, 3, 6);
    loudest(foot("3333 3333 3333 3333"), 12, 0, 4, 8, 12);
    loudest(feet(evenly(5, 3), FOOT, 0, 1), 15, 0, 5, 10, 15, 20);
    loudest(feet(evenly(6, 0), FOOT, 9, 1), 0, STRAIGHT_UP_SIX);
    loudest(loudestOfAll(), 219, STRAIGHT_UP_SIX);
    loudest(ears(loudestOfAll(), 9, 1), 0, STRAIGHT_UP_SIX);
  }

  @Of(promise = 29, says = "of several the first by rows")
  static void p29_ties() {
    loudest(foot("111 151 111"), 7, 0, 4, 6);
    loudest(foot("191 999 999"), 27, 1, 3, 6);
    loudest(foot("999 119 999"), 27, 1, 5, 7);
    loudest(foot("112 112 112"), 6, 2, 5, 8);
    loudest(foot("291 192 191"), 27, 1, 4, 7);
    loudest(foot("911 119 119"), 19, 0, 4, 8);
    loudest(foot("119 911 911"), 19, 0, 3, 6);
  }

  @Of(promise = 29, says = "BAD.")
  static void p29_feet() {
    takesFeet((x, f) -> x.loudest(f, NONE), 12);
    takesFeet((x, f) -> x.loudest(f, 3), 12);
    takesFeet((x, f) -> x.loudest(f, 4), BAD);
  }

  @Of(promise = 29, says = "FEET have numbers, 0 on, 8 at most")
  static void p29_lastOfEight() {
    GravelHasTheLastWord x = crowd(drive("21 12"), FOOT, 0, 1);
    way("loudest of the last", i -> x.loudest(7, i), 4, 0, 3);
    way("loudest of another", i -> x.loudest(6, i), 0, 0, 2);
  }

  // ---- 30 and 31: ways, through

  @Of(promise = 30, says = "How many WAYS there are.")
  static void p30_everySide() {
    int[] want = {4, 17, 68, 259, 950};
    for (int n = 2; n <= 6; n++) {
      due("ways, no GRAVEL", evenly(n, 0).ways(), want[n - 2]);
      due("ways, the most", ears(evenly(n, 9), 9, 1).ways(), want[n - 2]);
    }
    due("ways at first", fresh().ways(), 68);
  }

  @Of(promise = 31, says = "How many WAYS go over a CELL. BAD.")
  static void p31_everyCell() {
    int[] corner = {2, 5, 13, 35, 96};
    for (int n = 2; n <= 6; n++) {
      GravelHasTheLastWord x = evenly(n, 9);
      int[] corners = {0, n - 1, n * (n - 1), n * n - 1};
      for (int cell : corners) {
        due("through a corner of SIDE " + n, x.through(cell), corner[n - 2]);
      }
      for (int r = 0; r < n; r++) {
        int all = 0;
        for (int c = 0; c < n; c++) {
          all += x.through(r * n + c);
        }
        due("through ROW " + r, all, x.ways());
      }
      refuses("CELL", 0, n * n - 1, x::through, BAD);
    }
    dueAll("through, SIDE 2", evenly(2, 0)::through, 2, 2, 2, 2);
    dueAll("through, SIDE 3", evenly(3, 0)::through, 5, 7, 5, 4, 9, 4, 5, 7, 5);
  }

  // ---- 32: dry

  @Of(promise = 32, says = "The least RAIN (0 to 9) by which some WAY of FEET is UNHEARD; NONE. BAD.")
  static void p32_leastAndMost() {
    due("none needed", foot("33 33").dry(0), 0);
    due("one", foot("44 44").dry(0), 1);
    due("the most", ears(foot("99 99"), 0, 1).dry(0), 9);
    due("next to it", ears(foot("99 99"), 0, 2).dry(0), 8);
    due("a or not", ears(feet(drive("99 99"), FOOT, 9, 1), 0, 10).dry(0), 9);
    due("a or not", ears(feet(drive("99 99"), FOOT, 9, 1), 0, 11).dry(0), 8);
    due("the loudest of all", ears(loudestOfAll(), 0, 1).dry(0), 9);
    due("no GRAVEL anywhere", ears(feet(evenly(6, 0), SPUR, 9, 1), 0, 1).dry(0), 0);
    due("some WAY alone", ears(foot("91 19"), 0, 1).dry(0), 1);
    due("no WAY leads round", ears(foot("199 991 991"), 0, 2).dry(0), 8);
    due("a CAT", ears(feet(drive("77 77"), CAT, 9, 1), 0, 1).dry(0), 3);
  }

  @Of(promise = 32, says = "The least RAIN (0 to 9)")
  static void p32_whateverTheRain() {
    for (int rain = 0; rain <= 9; rain++) {
      GravelHasTheLastWord x = ears(foot("66 66"), rain, 4);
      due("dry under " + rain, x.dry(0), 3);
      due("RAIN stays", x.status(2), rain);
    }
  }

  @Of(promise = 32, says = "(NONE isn't refused.)")
  static void p32_noneIsNotRefused() {
    GravelHasTheLastWord x = ears(loudestOfAll(), 0, 1);
    due("by the most RAIN there is always one", x.dry(0), 9);
    dueAll("REFUSALS", why -> x.status(12 + why), 0, 0, 0, 0, 0);
  }

  @Of(promise = 32, says = "FEET have numbers, 0 on, 8 at most")
  static void p32_lastOfEight() {
    GravelHasTheLastWord x = ears(crowd(drive("99 99"), FOOT, 0, 1), 0, 5);
    due("dry, the last", x.dry(7), 5);
    due("dry, another", x.dry(6), 2);
  }

  @Of(promise = 32, says = "BAD.")
  static void p32_feet() {
    takesFeet((x, f) -> x.dry(f), 0);
  }

  // ---- 33: mean

  @Of(promise = 33, says = "1000 times all CRUNCHES of FEET on all WAYS together, by how many WAYS there are (cut).")
  static void p33_cut() {
    due("5 by 17", foot("100 000 000").mean(0), 294);
    due("9 by 17", foot("000 010 000").mean(0), 529);
    due("2 by 4", foot("10 00").mean(0), 500);
    due("34 by 68", foot("1111 0000 0000 0000").mean(0), 1000);
    due("nothing", feet(evenly(6, 0), SPUR, 9, 1).mean(0), 0);
    due("the most", loudestOfAll().mean(0), 219000);
    due("all in the RAIN", ears(loudestOfAll(), 9, 1).mean(0), 0);
    due("96 by 950", foot("100000 000000 000000 000000 000000 000000").mean(0), 101);
    due("LAME", feet(evenly(2, 3), LAME, 0, 1).mean(0), 4000);
  }

  @Of(promise = 33, says = "FEET have numbers, 0 on, 8 at most")
  static void p33_lastOfEight() {
    GravelHasTheLastWord x = crowd(drive("99 99"), FOOT, 0, 1);
    due("mean of the last", x.mean(7), 18000);
    due("mean of another", x.mean(6), 12000);
  }

  @Of(promise = 33, says = "BAD.")
  static void p33_feet() {
    takesFeet((x, f) -> x.mean(f), 12000);
  }

  // ---- 39: planks

  @Of(promise = 39, says = "how many (i NONE; NONE: two aren't enough), the i-th. BAD; STUCK: not so many. (NONE isn't refused.)")
  static void p39_zeroToTwo() {
    planks(foot("33 33"), 0);
    planks(foot("39 99"), 1, 2);
    planks(foot("99 99"), 2, 0, 2);
    planks(foot("999 999 999"), NONE);
    GravelHasTheLastWord x = foot("999 999 999");
    x.planks(0, NONE);
    due("NONE isn't refused", x.status(12) + x.status(15), 0);
  }

  @Of(promise = 39, says = "The fewest CELLS (0 to 2) that must have GRAVEL 0, so that some WAY is UNHEARD")
  static void p39_fewest() {
    planks(foot("93 99"), 1, 2);
    planks(foot("99 93"), 1, 0);
    planks(foot("999 939 999"), 2, 0, 6);
    planks(foot("199 999 991"), 1, 4);
    planks(foot("199 999 199"), 1, 3);
    planks(feet(evenly(6, 9), FOOT, 0, 1), NONE);
    due("the most, by a great EAR", ears(feet(evenly(6, 9), FOOT, 0, 1), 0, 10).planks(0, NONE), 0);
    due("no GRAVEL anywhere", ears(feet(evenly(6, 0), FOOT, 9, 1), 0, 1).planks(0, NONE), 0);
    planks(ears(foot("11 11"), 0, 1), 2, 0, 2);
    planks(ears(foot("99 99"), 9, 1), 0);
    planks(ears(foot("99 99"), 8, 1), 2, 0, 2);
    planks(ears(feet(drive("33 33"), LAME, 0, 1), 0, 2), 1, 0);
  }

  @Of(promise = 39, says = "of several the first by rows")
  static void p39_ties() {
    planks(foot("33 99"), 1, 2);
    planks(foot("99 33"), 1, 0);
    planks(foot("993 999 999"), 2, 4, 6);
    planks(foot("999 999 399"), 2, 0, 3);
    planks(foot("3999 9399 9993 9993"), 1, 10);
    planks(foot("9993 9939 3999 3999"), 1, 9);
    planks(foot("999993 999993 999993 999993 999999 999999"), 2, 28, 33);
    planks(foot("999993 999993 999993 999993 999993 999999"), 1, 34);
  }

  @Of(promise = 39, says = "BAD; STUCK: not so many.")
  static void p39_feet() {
    takesFeet((x, f) -> x.planks(f, NONE), 0);
    takesFeet((x, f) -> x.planks(f, 0), STUCK);
    takesFeet((x, f) -> x.planks(f, MOST), STUCK);
    takesFeet((x, f) -> x.planks(f, -2), BAD);
  }

  @Of(promise = 39, says = "FEET have numbers, 0 on, 8 at most")
  static void p39_lastOfEight() {
    GravelHasTheLastWord x = ears(crowd(drive("99 99"), FOOT, 0, 1), 0, 9);
    found("planks, the last", i -> x.planks(7, i), 2, 0, 2);
    found("planks, another", i -> x.planks(6, i), 0);
  }

  // ---- 40: column

  @Of(promise = 40, says = "The COLUMN on which FEET make least CRUNCHES together, STRAIGHT up, of several the first. BAD.")
  static void p40_ties() {
    due("all alike", foot("11 11").column(0), 0);
    due("the last", foot("221 221 221").column(0), 2);
    due("of two the first", foot("211 211 211").column(0), 1);
    due("a tie of other steps", foot("531 351 118").column(0), 0);
    due("no GRAVEL anywhere", feet(evenly(6, 0), SPUR, 9, 1).column(0), 0);
    due("the most everywhere", loudestOfAll().column(0), 0);
    due("the last of six", foot("111110 111110 111110 111110 111110 111111").column(0), 5);
    due("by the CELL at the door", foot("11111 11111 11111 11111 11110").column(0), 4);
    due("by the CELL at the door", foot("111111 111111 111111 111111 111111 111110").column(0), 5);
    due("by the CELL at the gate", foot("111110 111111 111111 111111 111111 111111").column(0), 5);
    GravelHasTheLastWord x = crowd(drive("21 21"), FOOT, 0, 1);
    due("of the last", x.column(7), 1);
    due("of another", x.column(6), 0);
    due("LAME by ROWS", feet(drive("35 53"), LAME, 0, 1).column(0), 0);
    due("LAME by ROWS", feet(drive("53 35"), LAME, 0, 1).column(0), 1);
    takesFeet((y, f) -> y.column(f), 0);
  }

  // ---- 42: worst

  @Of(promise = 42, says = "The CELL on which FEET have the greatest CRUNCH (as the CELL of its ROW of a WAY), of several the first.")
  static void p42_ties() {
    due("all alike", foot("33 33").worst(0), 0);
    due("of several the first", foot("19 99").worst(0), 1);
    due("the last", foot("11 12").worst(0), 3);
    due("the last of 36", foot("1".repeat(35) + "2").worst(0), 35);
    due("no GRAVEL anywhere", feet(evenly(6, 0), SPUR, 9, 1).worst(0), 0);
    due("the most everywhere", feet(evenly(6, 9), FOOT, 9, 1).worst(0), 0);
    GravelHasTheLastWord x = crowd(drive("12 21"), FOOT, 0, 1);
    due("of the last", x.worst(7), 1);
    due("of another", x.worst(6), 0);
    due("SPUR, where k is odd", loudestOfAll().worst(0), 6);
    due("LAME, where k is even", feet(drive("39 99"), LAME, 0, 1).worst(0), 1);
    due("LAME, the door as the 2nd", feet(drive("333 999 444"), LAME, 0, 1).worst(0), 3);
    takesFeet((y, f) -> y.worst(f), 0);
  }

  @Of(promise = 42, says = "BAD.")
  static void p42_feet() {
    takesFeet((x, f) -> {
      x.gravel(15, 4);
      return x.worst(f);
    }, 15);
  }

  // ---- 43: ranked

  @Of(promise = 43, says = "FEET by how loud QUIETEST is, the least first, of several the first: the i-th. BAD.")
  static void p43_ties() {
    GravelHasTheLastWord alike = evenly(4, 3);
    GravelHasTheLastWord falling = evenly(2, 3);
    GravelHasTheLastWord mixed = evenly(2, 3);
    for (int f = 0; f < 8; f++) {
      alike.feet(FOOT, 0, 1 + f);
      falling.feet(FOOT, 9 - f, 1);
      mixed.feet(FOOT, f % 2 == 0 ? 5 : 2, 1);
    }
    dueAll("all alike", alike::ranked, 0, 1, 2, 3, 4, 5, 6, 7);
    dueAll("ever less loud", falling::ranked, 7, 6, 5, 4, 3, 2, 1, 0);
    dueAll("two of a loudness", mixed::ranked, 1, 3, 5, 7, 0, 2, 4, 6);
    alike.ask(0, 9);
    dueAll("nothing to hear", alike::ranked, 0, 1, 2, 3, 4, 5, 6, 7);
    refuses("i of eight", 0, 7, alike::ranked, BAD);
    refuses("i of one", 0, 0, foot("33 33")::ranked, BAD);
    refuses("i of none", 0, -1, fresh()::ranked, BAD);
    due("one alone", foot("33 33").ranked(0), 0);
  }

  // ---- 44: duel

  private static void duel(GravelHasTheLastWord x, int cell, int loud) {
    due("duel, the CELL", x.duel(0, 0), cell);
    due("duel, how loud", x.duel(0, 1), loud);
    refuses("duel, what", 0, 1, what -> x.duel(0, what), BAD);
  }

  @Of(promise = 44, says = "DUEL: the CELL (of all) which, if it had GRAVEL 9, makes QUIETEST of FEET loudest, of several the first; how loud that is.")
  static void p44_ties() {
    duel(foot("33 33"), 0, 6);
    duel(foot("39 33"), 0, 12);
    duel(foot("33 93"), 3, 12);
    duel(foot("39 93"), 0, 12);
    duel(foot("99 99"), 0, 18);
    duel(foot("999999 999999 999999 999999 999999 999991"), 35, 54);
    duel(feet(evenly(6, 0), FOOT, 0, 1), 0, 0);
    duel(ears(feet(evenly(6, 9), SPUR, 9, 1), 9, 1), 0, 0);
    duel(loudestOfAll(), 0, 219);
    duel(feet(drive("93 39"), LAME, 0, 1), 1, 10);
    duel(feet(drive("39 93"), SPUR, 0, 1), 0, 25);
    duel(feet(drive("33 93"), SPUR, 0, 1), 3, 25);
    duel(feet(drive("33 39"), SPUR, 0, 1), 2, 25);
    GravelHasTheLastWord x = crowd(drive("93 33"), FOOT, 0, 1);
    due("duel of the last, the CELL", x.duel(7, 0), 1);
    due("duel of the last, how loud", x.duel(7, 1), 12);
    due("duel of another, how loud", x.duel(6, 1), 6);
    duel(feet(drive("11 14"), CAT, 9, 1), 0, 0);
    duel(ears(foot("93 33"), 2, 4), 1, 8);
  }

  @Of(promise = 44, says = "DUEL: the CELL (what 0), how loud (1). BAD.")
  static void p44_nothingIsChanged() {
    GravelHasTheLastWord x = foot("39 33");
    x.duel(0, 0);
    x.duel(0, 1);
    dueAll("GRAVEL", cell -> x.cellOf(cell, 0), 3, 9, 3, 3);
    takesFeet((y, f) -> y.duel(f, 0), 0);
    takesFeet((y, f) -> y.duel(f, 1), 12);
    takesFeet((y, f) -> y.duel(f, 2), BAD);
  }
}
