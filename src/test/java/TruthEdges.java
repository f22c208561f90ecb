/** What is done in truth, what is kept, and what stands, at their edges: promises 48 to 54. */
public final class TruthEdges extends Edges {
  public static void main(String[] args) {
    run(TruthEdges.class);
  }

  // ---- 48: rake

  @Of(promise = 48, says = "All GRAVEL that isn't 0 is 1 more (9 at most) in truth: all GRAVEL together.")
  static void p48_noneAndMost() {
    for (int n = 2; n <= 6; n++) {
      due("no GRAVEL anywhere", evenly(n, 0).rake(), 0);
      due("the most everywhere", evenly(n, 9).rake(), 9 * n * n);
      due("next to the most", evenly(n, 8).rake(), 9 * n * n);
      due("the least", evenly(n, 1).rake(), 2 * n * n);
    }
    GravelHasTheLastWord x = drive("0189");
    due("rake", x.rake(), 20);
    dueAll("GRAVEL", cell -> x.cellOf(cell, 0), 0, 2, 9, 9);
    due("rake", x.rake(), 21);
    for (int i = 0; i < 9; i++) {
      x.rake();
    }
    dueAll("GRAVEL", cell -> x.cellOf(cell, 0), 0, 9, 9, 9);
    due("GRAVEL, not WET", ears(evenly(2, 1), 9, 4).rake(), 8);
  }

  // ---- 49: sweep

  @Of(promise = 49, says = "GRAVEL of all CELLS of a COLUMN is 0 in truth: how much there was. BAD.")
  static void p49_columns() {
    for (int n = 2; n <= 6; n++) {
      int side = n;
      takes("COLUMN of SIDE " + n, 0, n - 1, column -> evenly(side, 9).sweep(column), 9 * n);
      for (int column = 0; column < n; column++) {
        GravelHasTheLastWord x = evenly(n, 1);
        due("how much", x.sweep(column), n);
        due("and then", x.sweep(column), 0);
        for (int cell = 0; cell < n * n; cell++) {
          due("GRAVEL of " + cell, x.cellOf(cell, 0), cell % n == column ? 0 : 1);
        }
        due("refused", x.sweep(n), BAD);
        due("all GRAVEL", x.status(4), n * n - n);
      }
    }
    due("no GRAVEL anywhere", evenly(6, 0).sweep(5), 0);
    due("GRAVEL, not WET", ears(evenly(2, 9), 9, 4).sweep(1), 18);
  }

  // ---- 50: arrivals

  /** The SEED that is 1 before its next DRAW and then draws that number below a bound, a next one below another. */
  private static int seedFor(int bound, int first, int nextBound, int next) {
    for (int seed = LEAST; seed < LEAST + 1000000; seed += 7) {
      int one = after(seed);
      if (drawn(one, bound) == first && drawn(after(one), nextBound) == next) {
        return seed;
      }
    }
    due("there is a SEED", 0, 1);
    return 0;
  }

  private static int after(int seed) {
    return (int) ((seed * 1103515245L + 12345L) % (1L << 32));
  }

  /** The upper 16 bits of a SEED without a sign, modulo a bound. */
  private static int drawn(int seed, int bound) {
    long all = seed < 0 ? seed + (1L << 32) : seed;
    return (int) (all / 65536 % bound);
  }

  private static int oneArrival(GravelHasTheLastWord x, int seed) {
    x.seed(seed);
    return x.arrivals(1);
  }

  @Of(promise = 50, says = "(the first whose LIKELY and those ahead are more)")
  static void p50_drawOfFeet() {
    GravelHasTheLastWord x = feet(evenly(2, 3), FOOT, 0, 1, FOOT, 0, 99);
    due("the least DRAW is the first FEET", oneArrival(x, seedFor(100, 0, 2, 0)), 0);
    due("the next is the second", oneArrival(x, seedFor(100, 1, 2, 0)), 1);
    due("the greatest is the second", oneArrival(x, seedFor(100, 99, 2, 1)), 1);
    GravelHasTheLastWord y = feet(evenly(2, 3), FOOT, 0, 99, FOOT, 0, 1);
    due("the last DRAW of the first FEET", oneArrival(y, seedFor(100, 98, 2, 0)), 1);
    due("the first of the second", oneArrival(y, seedFor(100, 99, 2, 0)), 0);
    GravelHasTheLastWord z = feet(evenly(2, 3), FOOT, 0, 2, FOOT, 0, 3, FOOT, 0, 1);
    int[] right = {0, 0, 1, 1, 1, 0};
    dueAll("of three, DRAW", draw -> oneArrival(z, seedFor(6, draw, 2, 1)), right);
  }

  @Of(promise = 50, says = "ARRIVALS by draws, m: each: FEET by a DRAW below all LIKELY together")
  static void p50_eightFeet() {
    GravelHasTheLastWord x = evenly(6, 3);
    for (int f = 0; f < 8; f++) {
      x.feet(FOOT, 0, 99);
    }
    due("the last DRAW of the first FEET", oneArrival(x, seedFor(792, 98, 6, 5)), 1);
    due("the first DRAW of the second", oneArrival(x, seedFor(792, 99, 6, 5)), 0);
    due("the greatest DRAW", oneArrival(x, seedFor(792, 791, 6, 5)), 0);
    due("the least DRAW", oneArrival(x, seedFor(792, 0, 6, 0)), 1);
  }

  @Of(promise = 50, says = "a COLUMN by a DRAW below n, STRAIGHT up")
  static void p50_drawOfColumn() {
    for (int n = 2; n <= 6; n++) {
      for (int told = 0; told < n; told++) {
        GravelHasTheLastWord x = feet(evenly(n, 9), SOFT, 3, 1, CAT, 3, 1);
        x.gravel(n * (n - 1) + told, 3);
        for (int column = 0; column < n; column++) {
          int seed = seedFor(2, 1, n, column);
          due("SIDE " + n + ", COLUMN " + column, oneArrival(x, seed), column == told ? 1 : 0);
        }
      }
    }
  }

  @Of(promise = 50, says = "the butler says the LIKELIEST by what was heard; how often that is right")
  static void p50_butler() {
    due("one FEET alone", foot("33 33").arrivals(60), 60);
    due("nothing to hear, one alone", foot("00 00").arrivals(60), 60);
    GravelHasTheLastWord x = evenly(6, 3);
    for (int f = 0; f < 8; f++) {
      x.feet(FOOT, f, 1 + f);
    }
    due("all apart", x.arrivals(60), 60);
    GravelHasTheLastWord y = feet(evenly(2, 3), FOOT, 0, 5, FOOT, 0, 5);
    due("two alike, the first comes", oneArrival(y, seedFor(10, 4, 2, 0)), 1);
    due("two alike, the second comes", oneArrival(y, seedFor(10, 5, 2, 0)), 0);
  }

  @Of(promise = 50, says = "WET is GRAVEL less RAIN (0 at least)")
  static void p50_inTheRain() {
    GravelHasTheLastWord x = feet(evenly(2, 9), SOFT, 3, 1, CAT, 3, 1);
    int seed = seedFor(2, 1, 2, 0);
    dueAll("the second comes, RAIN", rain -> oneArrival(ears(x, rain, 4), seed), 0, 0, 0, 0, 0, 1, 1, 1, 1, 0);
  }

  @Of(promise = 50, says = "A DRAW below n: SEED (1 at first) becomes SEED times 1103515245, and 12345 (an int, wrapping)")
  static void p50_seed() {
    int[] seeds = {1, 0, -1, LEAST, MOST, 77};
    for (int seed : seeds) {
      GravelHasTheLastWord x = foot("33 33");
      due("one ahead", x.seed(seed), 1);
      int want = seed;
      for (int m = 1; m <= 60; m += 59) {
        x.arrivals(m);
        for (int draw = 0; draw < 2 * m; draw++) {
          want = after(want);
        }
        due("SEED behind " + m + " ARRIVALS from " + seed, x.status(7), want);
      }
    }
    GravelHasTheLastWord y = foot("33 33");
    y.arrivals(1);
    due("two DRAWS from the first SEED", y.status(7), -1770082073);
  }

  @Of(promise = 50, says = "its upper 16 bits, no sign, modulo n")
  static void p50_noSign() {
    GravelHasTheLastWord x = feet(evenly(2, 3), FOOT, 0, 1, FOOT, 0, 2);
    int tried = 0;
    for (int seed = 1; seed <= 40; seed++) {
      int one = after(seed);
      if (one < 0) {
        tried++;
        due("SEED " + seed, oneArrival(x, seed), drawn(one, 3) == 0 ? 0 : 1);
      }
    }
    due("some with a sign", tried > 10 ? 1 : 0, 1);
  }

  @Of(promise = 50, says = "ARRIVALS (m 1 to 60): how often right. BAD; STUCK: no FEET.")
  static void p50_numbers() {
    for (int m = 1; m <= 60; m++) {
      due("m " + m, foot("33 33").arrivals(m), m);
    }
    refuses("m", 1, 60, m -> foot("33 33").arrivals(m), BAD);
    takes("m and no FEET", 1, 60, m -> fresh().arrivals(m), STUCK);
    GravelHasTheLastWord x = fresh();
    x.arrivals(0);
    x.arrivals(1);
    due("each counted as what it is", x.status(12) * 10 + x.status(15), 11);
    due("no DRAW", x.status(7), 1);
  }

  @Of(promise = 50, says = "the GRAVEL stays")
  static void p50_gravelStays() {
    GravelHasTheLastWord x = feet(evenly(6, 1), FOOT, 0, 1, BOOT, 1, 1);
    x.arrivals(60);
    due("all GRAVEL", x.status(4), 36);
    due("RAIN and EAR", x.status(2) * 100 + x.status(3), 4);
  }

  // ---- 51: seed

  @Of(promise = 51, says = "SEED becomes v: the one ahead.")
  static void p51_leastAndGreatest() {
    GravelHasTheLastWord x = fresh();
    int was = 1;
    int[] seeds = {0, -1, LEAST, MOST, LEAST + 1, MOST - 1, 1, 65536, -65536};
    for (int seed : seeds) {
      due("the one ahead of " + seed, x.seed(seed), was);
      due("SEED", x.status(7), seed);
      was = seed;
    }
    due("refused", x.status(12), 0);
  }

  // ---- 52: image

  @Of(promise = 52, says = "All is kept, but THE TAPE, SHELVES and REFUSALS: 1.")
  static void p52_allIsKept() {
    GravelHasTheLastWord x = ears(feet(drive("123456789"), LAME, 9, 99, CAT, 1, 2), 7, 88);
    x.seed(LEAST);
    due("image", x.image(), 1);
    x.side(6);
    feet(x, BOOT, 5, 5);
    ears(x, 1, 2);
    x.seed(3);
    due("back", x.back(), 1);
    dueAll("status", x::status, 2, 3, 7, 88, 45, 101, 0, LEAST, 0);
    dueAll("GRAVEL", cell -> x.cellOf(cell, 0), 1, 2, 3, 4, 5, 6, 7, 8, 9);
    dueAll("the first FEET", what -> x.feetOf(0, what), LAME, 9, 99);
    dueAll("the second", what -> x.feetOf(1, what), CAT, 1, 2);
    due("a third", x.feetOf(2, 0), BAD);
  }

  @Of(promise = 52, says = "All is kept, but THE TAPE, SHELVES and REFUSALS")
  static void p52_notKept() {
    GravelHasTheLastWord x = fill(fresh(), 0, 2, 5);
    x.feed('r');
    x.side(7);
    x.image();
    x.feed('a');
    x.side(1);
    x.set(0, 0, 6);
    x.row(1, 4, 3);
    x.back();
    due("THE TAPE's size", x.status(6), 2);
    due("THE TAPE", told(x, "ke"), 1);
    due("REFUSALS", x.status(12), 2);
    due("an element", x.element(0, 0), 6);
    due("a ROW since then", x.holds(1), 4);
    due("SHELVES that hold something", x.status(8), 2);
  }

  @Of(promise = 52, says = "All is kept")
  static void p52_theLastOneCounts() {
    GravelHasTheLastWord x = fresh();
    for (int n = 2; n <= 6; n++) {
      x.side(n);
      due("image", x.image(), 1);
    }
    x.side(3);
    x.back();
    due("SIDE", x.status(1), 6);
    x.gravel(35, 9);
    due("all GRAVEL", x.status(4), 114);
    due("image of what came back", x.image(), 1);
    x.gravel(35, 0);
    x.back();
    due("all GRAVEL again", x.status(4), 114);
  }

  // ---- 53: back

  @Of(promise = 53, says = "1. STUCK: nothing was.")
  static void p53_nothingWasKept() {
    GravelHasTheLastWord x = feet(fresh(), FOOT, 0, 1);
    x.show(0, 0);
    x.side(2);
    due("back", x.back(), STUCK);
    due("back", x.back(), STUCK);
    due("STUCK counted", x.status(15), 2);
    dueAll("status", x::status, 1, 2, 0, 4, 12, 1, 0, 1, 1);
    x.image();
    due("back", x.back(), 1);
    due("back once more", x.back(), 1);
    due("STUCK counted", x.status(15), 2);
  }

  @Of(promise = 53, says = "All is again as it was kept")
  static void p53_asOftenAsWanted() {
    GravelHasTheLastWord x = fresh();
    x.image();
    for (int n = 2; n <= 6; n++) {
      x.side(n);
      x.feet(0, 0, 1);
      x.rake();
      due("back", x.back(), 1);
      dueAll("status", x::status, 0, 4, 0, 4, 48, 0, 0, 1, 0);
    }
  }

  @Of(promise = 53, says = "(SHELVES with FEET hold those of the same numbers, or NOTHING)")
  static void p53_shelvesWithFeet() {
    for (int kept = 0; kept <= 8; kept++) {
      GravelHasTheLastWord x = fresh();
      for (int f = 0; f < kept; f++) {
        x.feet(0, f, 1);
      }
      x.image();
      for (int f = kept; f < 8; f++) {
        x.feet(1, f, 1);
      }
      for (int s = 0; s < 8; s++) {
        x.show(s, 7 - s);
      }
      due("SHELVES that hold something", x.status(8), 8);
      x.back();
      due("FEET", x.status(0), kept);
      for (int s = 0; s < 8; s++) {
        due(kept + " kept, SHELF " + s, x.holds(s), 7 - s < kept ? 17 - s : NONE);
      }
      due("SHELVES that hold something", x.status(8), kept);
      due("a SHELF is free", x.row(0, 0, 40), 1);
    }
  }

  @Of(promise = 53, says = "(SHELVES with FEET hold those of the same numbers, or NOTHING)")
  static void p53_rowsStay() {
    GravelHasTheLastWord x = fresh();
    x.image();
    for (int s = 0; s < 5; s++) {
      fill(x, s, s, 1, 0, 1);
    }
    x.row(5, 3, 0);
    x.back();
    for (int s = 0; s < 5; s++) {
      due("SHELF " + s, x.holds(s), s);
      due("element", x.element(s, 0) * 100 + x.element(s, 1) * 10 + x.element(s, 2), 101);
    }
    due("an empty ROW", x.holds(5), 3);
  }

  @Of(promise = 53, says = "(SHELVES with FEET hold those of the same numbers, or NOTHING)")
  static void p53_feetGoneAndNew() {
    GravelHasTheLastWord x = feet(fresh(), FOOT, 0, 1);
    x.image();
    feet(x, CAT, 5, 50);
    x.show(0, 1);
    x.back();
    due("the next number", x.feet(LAME, 6, 60), 1);
    due("it isn't on the SHELF", x.holds(0), NONE);
    due("show it", x.show(0, 1), 1);
    due("the new ones", x.says(0, 0), 60);
  }

  // ---- 54: status

  @Of(promise = 54, says = "FEET (0), SIDE (1), RAIN (2), EAR (3), all GRAVEL together (4), all LIKELY together (5)")
  static void p54_least() {
    GravelHasTheLastWord x = ears(evenly(2, 0), 0, 1);
    x.seed(LEAST);
    dueAll("status", x::status, 0, 2, 0, 1, 0, 0, 0, LEAST, 0, NONE, NONE, NONE, 0, 0, 0, 0, 0, NONE);
    feet(x, 0, 0, 1);
    due("all LIKELY, the least", x.status(5), 1);
  }

  @Of(promise = 54, says = "THE TAPE's size (6), SEED (7), SHELVES that hold something (8)")
  static void p54_most() {
    GravelHasTheLastWord x = ears(evenly(6, 9), 9, 99);
    for (int f = 0; f < 8; f++) {
      x.feet(5, 9, 99);
      x.show(f, f);
    }
    for (int size = 0; size < 250; size++) {
      x.feed(255);
    }
    x.seed(MOST);
    dueAll("status", x::status, 8, 6, 9, 99, 324, 792, 250, MOST, 8);
  }

  @Of(promise = 54, says = "12 to 16: REFUSALS -2 to -6. NONE another what.")
  static void p54_refusals() {
    GravelHasTheLastWord x = filled();
    for (int count = 1; count <= 3; count++) {
      x.side(9);
      x.set(2, 0, 0);
      x.set(6, 0, 0);
      x.judge(0, 41);
      x.done(0, 0, 0);
      x.feet(0, 0, 1);
      x.feed(0);
      due("BAD", x.status(12), 2 * count);
      due("OTHER", x.status(13), count);
      due("NOTHING", x.status(14), count);
      due("STUCK", x.status(15), count);
      due("FULL", x.status(16), 2 * count);
    }
  }

  @Of(promise = 54, says = "NONE another what.")
  static void p54_another() {
    GravelHasTheLastWord x = lived();
    for (int what = 9; what <= 11; what++) {
      due("status " + what, x.status(what), NONE);
    }
    refuses("status", 0, 16, x::status, NONE);
    due("nothing is refused", x.status(12) + x.status(13) + x.status(14) + x.status(15) + x.status(16), 0);
  }
}
