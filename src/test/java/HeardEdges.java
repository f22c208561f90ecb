/** What is heard, and who it is by that, at its edges: promises 23 to 28, 34 to 38 and 41. */
public final class HeardEdges extends Edges {
  public static void main(String[] args) {
    run(HeardEdges.class);
  }

  /** Eight FEET, all alike, LIKELY 5. */
  private static GravelHasTheLastWord alike(GravelHasTheLastWord x) {
    for (int f = 0; f < 8; f++) {
      x.feet(FOOT, 0, 5);
    }
    return x;
  }

  /** Eight FEET, none of which sounds as another. */
  private static GravelHasTheLastWord apart(GravelHasTheLastWord x) {
    for (int f = 0; f < 8; f++) {
      x.feet(FOOT, f, 5);
    }
    return x;
  }

  private static void who(GravelHasTheLastWord x, int column, int bits, int likeliest, int share, int sure) {
    dueAll("who, what", what -> x.who(0, column, what), bits, likeliest, share, sure);
  }

  // ---- 23: who

  @Of(promise = 23, says = "FEET (what 0), LIKELIEST (1; NONE), SHARE (2), SURE (3; NONE).")
  static void p23_noFeet() {
    for (int n = 2; n <= 6; n++) {
      GravelHasTheLastWord x = fill(evenly(n, 3), 0, 2, 3, 3, 3, 3, 3, 3);
      who(x, n - 1, 0, NONE, STUCK, NONE);
      due("NONE isn't refused", x.status(12), 0);
      due("STUCK, 2 alone", x.status(15), 1);
    }
  }

  @Of(promise = 23, says = "FEET (bits) that sound so")
  static void p23_eightFeet() {
    for (int n = 2; n <= 6; n++) {
      who(fill(alike(evenly(n, 3)), 0, 2, 3, 3, 3, 3, 3, 3), 0, 255, 0, 125, NONE);
      who(fill(apart(evenly(n, 3)), 0, 2, 3, 3, 3, 3, 3, 3), n - 1, 1, 0, 1000, 1);
      who(fill(apart(evenly(n, 3)), 0, 2, 10, 10, 10, 10, 10, 10), n - 1, 128, 7, 1000, 1);
      who(fill(alike(ears(evenly(n, 9), 9, 1)), 0, 2, 0, 0, 0, 0, 0, 0), 0, 255, 0, 125, NONE);
      who(fill(apart(evenly(n, 0)), 0, 2, 0, 0, 0, 0, 0, 0), 0, 255, 0, 125, NONE);
    }
    who(fill(feet(evenly(6, 9), SPUR, 9, 1), 0, 0, 36, 37, 36, 37, 36, 37), 5, 1, 0, 1000, 1);
  }

  @Of(promise = 23, says = "the LIKELIEST of them (greatest LIKELY, of several the first; NONE)")
  static void p23_likeliest() {
    who(fill(feet(evenly(2, 3), 0, 0, 5, 0, 0, 9, 0, 0, 9, 0, 0, 3), 0, 2, 3, 3), 0, 15, 1, 346, NONE);
    who(fill(feet(evenly(2, 3), 0, 0, 1, 0, 0, 1, 0, 0, 99), 0, 2, 3, 3), 0, 7, 2, 980, NONE);
    who(fill(feet(evenly(2, 3), 0, 0, 99, 0, 0, 99, 0, 0, 98), 0, 2, 3, 3), 0, 7, 0, 334, NONE);
    who(fill(feet(evenly(2, 3), 0, 1, 99, 0, 0, 1), 0, 2, 3, 3), 0, 2, 1, 1000, 1);
  }

  @Of(promise = 23, says = "SHARE of that: 1000 times its LIKELY by all LIKELY of those that fit (cut)")
  static void p23_share() {
    who(fill(feet(evenly(2, 3), 0, 0, 1, 0, 0, 2), 0, 2, 3, 3), 1, 3, 1, 666, NONE);
    who(fill(feet(evenly(2, 3), 0, 0, 98, 0, 0, 99), 0, 2, 3, 3), 1, 3, 1, 502, NONE);
    who(fill(feet(evenly(2, 3), 0, 0, 1, 0, 5, 99), 0, 2, 3, 3), 1, 1, 0, 1000, 1);
    GravelHasTheLastWord x = evenly(2, 3);
    for (int f = 0; f < 8; f++) {
      x.feet(FOOT, 0, 99);
    }
    who(fill(x, 0, 2, 3, 3), 1, 255, 0, 125, NONE);
  }

  @Of(promise = 23, says = "STUCK (2 alone): none fits. (NONE isn't refused.)")
  static void p23_noneFits() {
    long[][] rows = {{2, 3, 3}, {3, 2, 3}, {3, 3, 2}, {3, 3, 4}, {0, 0, 0}, {-3, -3, -3}, {3, 3, 259}};
    for (long[] row : rows) {
      GravelHasTheLastWord x = fill(feet(evenly(3, 3), FOOT, 0, 1, BOOT, 0, 1), 0, 1, row);
      who(x, 0, 0, NONE, STUCK, NONE);
      due("NONE isn't refused", x.status(12), 0);
      due("STUCK, 2 alone", x.status(15), 1);
    }
  }

  @Of(promise = 23, says = "SURE: by how few first elements (1 on) just one of the FEET fits; NONE: never, or none fits all of it.")
  static void p23_sure() {
    GravelHasTheLastWord x = feet(drive("911 911 311"), SOFT, 3, 1, CAT, 3, 1);
    due("by all of it", fill(x, 0, 2, 9, 9, 3).who(0, 0, 3), 3);
    due("by all of it", fill(x, 0, 2, 9, 9, 0).who(0, 0, 3), 3);
    due("none fits all of it", fill(x, 0, 2, 9, 9, 1).who(0, 0, 3), NONE);
    due("by the first", fill(x, 0, 2, 1, 1, 1).who(0, 1, 3), 1);
    GravelHasTheLastWord y = feet(evenly(3, 3), FOOT, 0, 1, LAME, 0, 1);
    due("by two", fill(y, 0, 2, 3, 3, 3).who(0, 0, 3), 2);
    due("by two", fill(y, 0, 2, 3, 1, 3).who(0, 0, 3), 2);
    due("by two, but then it isn't", fill(y, 0, 2, 3, 1, 9).who(0, 0, 3), NONE);
    due("never", fill(feet(y, FOOT, 0, 1), 0, 2, 3, 3, 3).who(0, 0, 3), NONE);
    due("others alike or not", y.who(0, 0, 0), 5);
    due("another by two", fill(y, 0, 2, 3, 1, 3).who(0, 0, 3), 2);
    due("one alone", fill(feet(evenly(6, 3), FOOT, 0, 1), 0, 2, 3, 3, 3, 3, 3, 3).who(0, 5, 3), 1);
    GravelHasTheLastWord z = feet(drive("900000 900000 900000 900000 900000 300000"), SOFT, 3, 1, CAT, 3, 1);
    due("by all six", fill(z, 0, 2, 9, 9, 9, 9, 9, 0).who(0, 0, 3), 6);
  }

  @Of(promise = 23, says = "BAD: fewer elements than ROWS of the drive")
  static void p23_lengths() {
    for (int n = 2; n <= 6; n++) {
      GravelHasTheLastWord x = feet(evenly(n, 3), FOOT, 0, 1);
      for (int size = 0; size <= 40; size++) {
        x.row(0, 3, size);
        for (int i = 0; i < size && i < 7; i++) {
          x.set(0, i, i < n ? 3 : -99);
        }
        due(size + " elements, SIDE " + n, x.who(0, 0, 0), size < n ? BAD : 1);
      }
    }
  }

  @Of(promise = 23, says = "WHO by a ROW of what was heard STRAIGHT up a COLUMN (n elements)")
  static void p23_elementsBehind() {
    for (int n = 2; n <= 5; n++) {
      GravelHasTheLastWord x = feet(evenly(n, 9), SOFT, 3, 1, CAT, 3, 1);
      x.row(0, 2, 7);
      for (int i = 0; i < 7; i++) {
        x.set(0, i, i < n ? 9 : 3);
      }
      who(x, 0, 3, 0, 500, NONE);
    }
  }

  @Of(promise = 23, says = "WHO by a ROW of what was heard STRAIGHT up a COLUMN (n elements)")
  static void p23_sorts() {
    GravelHasTheLastWord x = feet(evenly(2, 1), FOOT, 0, 1);
    for (int sort = 0; sort < 5; sort++) {
      due("sort " + sort, fill(x, 0, sort, 1, 1).who(0, 0, 0), 1);
    }
    due("a byte that came round", fill(x, 0, 0, 257, 1).who(0, 0, 0), 1);
    due("a short that came round", fill(x, 0, 1, 65537, 1).who(0, 0, 0), 1);
    due("an int that came round", fill(x, 0, 2, 1, 4294967297L).who(0, 0, 0), 1);
    due("a boolean", fill(x, 0, 4, 7, 9).who(0, 0, 0), 1);
    due("a long isn't cut", fill(x, 0, 3, 1, 4294967297L).who(0, 0, 0), 0);
    due("a short isn't a byte", fill(x, 0, 1, 257, 1).who(0, 0, 0), 0);
    x.gravel(0, 2);
    due("2 is no boolean", fill(x, 0, 4, 2, 1).who(0, 0, 0), 0);
  }

  @Of(promise = 23, says = "WHO by the ROW in SHELF s up a COLUMN")
  static void p23_lastShelfAndColumn() {
    GravelHasTheLastWord x = feet(drive("919 919 913"), SOFT, 3, 5, CAT, 3, 9);
    fill(x, 0, 2, 1, 1, 1);
    fill(x, 7, 2, 9, 9, 0);
    dueAll("who, what", what -> x.who(7, 2, what), 2, 1, 1000, 3);
    dueAll("another COLUMN", what -> x.who(7, 0, what), 0, NONE, STUCK, NONE);
    dueAll("another SHELF and COLUMN", what -> x.who(0, 1, what), 1, 0, 1000, 1);
  }

  @Of(promise = 23, says = "BAD SHELF, column, what")
  static void p23_numbers() {
    takes("SHELF", 0, 7, s -> fill(foot("33 33"), Math.floorMod(s, 8), 2, 3, 3).who(s, 0, 0), 1);
    for (int n = 2; n <= 6; n++) {
      GravelHasTheLastWord x = fill(feet(evenly(n, 3), FOOT, 0, 1), 0, 2, 3, 3, 3, 3, 3, 3);
      takes("COLUMN of SIDE " + n, 0, n - 1, column -> x.who(0, column, 0), 1);
      refuses("what", 0, 3, what -> x.who(0, 0, what), BAD);
    }
  }

  @Of(promise = 23, says = "OTHER; NOTHING; BAD: fewer elements than ROWS of the drive; STUCK (2 alone)")
  static void p23_twoReasons() {
    GravelHasTheLastWord x = lived();
    due("FEET", x.who(2, 0, 2), OTHER);
    due("NOTHING", x.who(6, 0, 2), NOTHING);
    due("FEET and COLUMN", x.who(2, 3, 0), BAD);
    due("NOTHING and what", x.who(6, 0, 4), BAD);
    due("fewer elements, none fits", x.who(5, 0, 2), BAD);
    due("an empty ROW, none fits", x.who(4, 0, 2), BAD);
    due("fewer elements and what", x.who(5, 0, -1), BAD);
    due("none fits", x.who(0, 0, 2), STUCK);
    due("none fits and COLUMN", x.who(0, 3, 2), BAD);
    due("each counted as what it is", x.status(12) * 1000 + x.status(13) * 100 + x.status(14) * 10 + x.status(15), 6111);
  }

  // ---- 24: apart

  @Of(promise = 24, says = "APART on a COLUMN: how many of the FEET sound otherwise than each other one there.")
  static void p24_noneToEight() {
    due("no FEET", evenly(2, 3).apart(0), 0);
    due("one alone", foot("33 33").apart(1), 1);
    due("eight alike", alike(evenly(2, 3)).apart(0), 0);
    due("eight apart", apart(evenly(2, 3)).apart(0), 8);
    due("two alike, one not", feet(evenly(2, 3), 0, 0, 1, 0, 0, 1, 0, 1, 1).apart(0), 1);
    due("two and two alike", feet(evenly(2, 3), 0, 0, 1, 0, 1, 1, 0, 0, 1, 0, 1, 1).apart(0), 0);
    due("nothing to hear", apart(ears(evenly(6, 9), 9, 1)).apart(5), 0);
    due("by LIKELY they aren't", feet(evenly(2, 3), 0, 0, 1, 0, 0, 99).apart(0), 0);
  }

  @Of(promise = 24, says = "STRAIGHT up a COLUMN: all of it.")
  static void p24_byOneCell() {
    GravelHasTheLastWord x = feet(drive("999 999 993"), SOFT, 3, 1, CAT, 3, 1);
    dueAll("by the CELL at the door", x::apart, 0, 0, 2);
    GravelHasTheLastWord y = feet(drive("993 999 999"), SOFT, 3, 1, CAT, 3, 1);
    dueAll("by the CELL at the gate", y::apart, 0, 0, 2);
  }

  @Of(promise = 24, says = "how many of the FEET sound otherwise than each other one there")
  static void p24_loudestSteps() {
    for (int n = 2; n <= 6; n++) {
      GravelHasTheLastWord x = feet(evenly(n, 9), BOOT, 9, 1, SPUR, 9, 1);
      due("BOOT and SPUR, SIDE " + n, x.apart(n - 1), 2);
      due("confused", x.confused(0), 0);
      x.feet(SPUR, 8, 1);
      due("and a SPUR next to it", x.apart(0), 3);
    }
  }

  @Of(promise = 24, says = "APART on a COLUMN. BAD.")
  static void p24_columns() {
    for (int n = 2; n <= 6; n++) {
      takes("COLUMN of SIDE " + n, 0, n - 1, feet(evenly(n, 3), FOOT, 0, 1)::apart, 1);
    }
  }

  // ---- 25: telling

  @Of(promise = 25, says = "TELLING: the COLUMN on which most are APART, of several the first.")
  static void p25_telling() {
    due("no FEET", fresh().telling(0), 0);
    due("all COLUMNS alike", apart(evenly(6, 3)).telling(0), 0);
    due("none on any", alike(evenly(6, 3)).telling(0), 0);
    due("the last", apart(drive("003 003 003")).telling(0), 2);
    due("of two the first", apart(drive("033 033 033")).telling(0), 1);
    due("most, not the first with some", feet(drive("19 11"), SOFT, 0, 1, SOFT, 1, 1, FOOT, 0, 1).telling(0), 1);
    for (int n = 2; n <= 6; n++) {
      due("no GRAVEL anywhere", apart(evenly(n, 0)).telling(0), 0);
      due("nothing to hear", apart(ears(evenly(n, 9), 9, 1)).telling(0), 0);
    }
    GravelHasTheLastWord x = apart(drive("38 38"));
    due("no RAIN", x.telling(0), 0);
    x.ask(0, 3);
    due("the first COLUMN in the RAIN", x.telling(0), 1);
  }

  @Of(promise = 25, says = "TELLING: the COLUMN on which most are APART")
  static void p25_oneMore() {
    GravelHasTheLastWord x = feet(drive("12 00"), SOFT, 0, 1, SOFT, 1, 1, SOFT, 2, 1, FOOT, 0, 1);
    due("one", x.apart(0), 1);
    due("one more", x.apart(1), 2);
    due("TELLING", x.telling(0), 1);
    GravelHasTheLastWord y = feet(drive("21 00"), SOFT, 0, 1, SOFT, 1, 1, SOFT, 2, 1, FOOT, 0, 1);
    due("one less", y.telling(0), 0);
    GravelHasTheLastWord z = feet(drive("012 000 000"), SOFT, 0, 1, SOFT, 1, 1, SOFT, 2, 1, FOOT, 0, 1);
    due("none, one, two", z.telling(0), 2);
  }

  @Of(promise = 25, says = "TURN: the least RAIN (0 to 9) by which, on some COLUMN, all FEET are APART; NONE.")
  static void p25_turn() {
    due("no FEET", fresh().telling(1), 0);
    due("one alone, nothing to hear", foot("00 00").telling(1), 0);
    due("two alike", feet(evenly(2, 9), 0, 0, 1, 0, 0, 1).telling(1), NONE);
    due("eight apart", apart(evenly(6, 3)).telling(1), 0);
    due("eight alike", alike(evenly(6, 9)).telling(1), NONE);
    due("no GRAVEL anywhere", apart(evenly(6, 0)).telling(1), NONE);
    due("a CAT by less WET", feet(evenly(2, 9), SOFT, 3, 1, CAT, 3, 1).telling(1), 5);
    due("on the last COLUMN alone", feet(drive("998 998 998"), SOFT, 3, 1, CAT, 3, 1).telling(1), 4);
    due("on the first COLUMN alone", feet(drive("988 988 988"), SOFT, 3, 1, CAT, 3, 1, FOOT, 9, 1).telling(1), 4);
    due("on the first of two", apart(drive("10 10")).telling(1), 0);
    due("on the last of two", apart(drive("01 01")).telling(1), 0);
    due("not by what would be ahead of the first COLUMN", feet(drive("09 00"), BOOT, 0, 1, SPUR, 0, 1).telling(1), NONE);
    due("nor behind the last", feet(drive("00 00"), FOOT, 0, 1, BOOT, 0, 1).telling(1), NONE);
    due("LAME by a half", feet(drive("00 22"), LAME, 0, 1, LAME, 1, 1).telling(1), 1);
    due("all but two", feet(evenly(2, 9), FOOT, 0, 1, SOFT, 5, 1, CAT, 5, 1, SOFT, 5, 1).telling(1), NONE);
  }

  @Of(promise = 25, says = "the least RAIN (0 to 9)")
  static void p25_whateverTheRain() {
    for (int rain = 0; rain <= 9; rain++) {
      GravelHasTheLastWord x = ears(feet(evenly(2, 9), SOFT, 3, 1, CAT, 3, 1), rain, 4);
      due("TURN under " + rain, x.telling(1), 5);
      due("RAIN stays", x.status(2), rain);
    }
  }

  @Of(promise = 25, says = "TELLING (what 0), TURN (1; NONE). BAD. (NONE isn't refused.)")
  static void p25_what() {
    GravelHasTheLastWord x = alike(evenly(2, 3));
    due("TURN", x.telling(1), NONE);
    due("NONE isn't refused", x.status(12) + x.status(15), 0);
    refuses("what", 0, 1, x::telling, BAD);
  }

  // ---- 26: as

  private static void as(GravelHasTheLastWord x, int feet, int other, int column, int all, int... cells) {
    way("as", i -> x.as(feet, other, column, i), all, cells);
  }

  @Of(promise = 26, says = "AS: how many (i NONE), the i-th CELL of the first.")
  static void p26_everySide() {
    as(alike(evenly(2, 3)), 0, 7, 1, 4, 0, 2);
    as(alike(evenly(3, 3)), 7, 0, 2, 17, 0, 3, 6);
    as(alike(evenly(4, 3)), 0, 1, 3, 68, 0, 4, 8, 12);
    as(alike(evenly(5, 3)), 0, 1, 4, 259, 0, 5, 10, 15, 20);
    as(alike(evenly(6, 3)), 0, 1, 5, 950, 0, 6, 12, 18, 24, 30);
    as(apart(evenly(6, 0)), 0, 1, 5, 950, 0, 6, 12, 18, 24, 30);
    as(apart(ears(evenly(6, 9), 9, 1)), 0, 1, 5, 950, 0, 6, 12, 18, 24, 30);
  }

  @Of(promise = 26, says = "AS: WAYS by which FEET x sound just as FEET y STRAIGHT up a COLUMN")
  static void p26_whoAsWhom() {
    GravelHasTheLastWord x = feet(drive("12 24"), FOOT, 0, 1, BOOT, 0, 1);
    as(x, 1, 0, 1, 1, 0, 2);
    as(x, 0, 1, 0, 1, 1, 3);
    due("not so", x.as(0, 1, 1, NONE), 0);
    due("not so", x.as(1, 0, 0, NONE), 0);
    as(feet(drive("213 321 231"), FOOT, 0, 1, FOOT, 0, 1), 0, 1, 0, 1, 0, 3, 6);
    as(feet(drive("233 323 232"), FOOT, 0, 1, FOOT, 0, 1), 0, 1, 0, 1, 0, 3, 6);
    as(feet(drive("322 233 223"), FOOT, 0, 1, FOOT, 0, 1), 0, 1, 2, 4, 1, 4, 8);
  }

  @Of(promise = 26, says = "how many; the i-th CELL of the first by rows.")
  static void p26_firstByRows() {
    as(alike(drive("121 212 121")), 0, 1, 0, 2, 0, 3, 6);
    as(alike(drive("121 212 121")), 0, 1, 2, 2, 0, 3, 6);
    as(alike(drive("212 121 212")), 0, 1, 1, 1, 1, 4, 7);
    as(alike(drive("331 133 313")), 0, 1, 0, 2, 0, 3, 6);
    as(alike(drive("331 133 313")), 0, 1, 2, 3, 2, 4, 6);
    as(alike(drive("133 331 313")), 0, 1, 2, 2, 1, 5, 8);
  }

  @Of(promise = 26, says = "AS: WAYS by which FEET x sound just as FEET y STRAIGHT up a COLUMN")
  static void p26_allOfTheDrive() {
    as(alike(drive("333333 333333 333333 333333 333333 333337")), 6, 7, 5, 96, 0, 7, 14, 21, 28, 35);
    as(alike(drive("333337 333333 333333 333333 333333 333333")), 7, 6, 5, 96, 5, 10, 15, 20, 25, 30);
    as(crowd(evenly(2, 5), SOFT, 0, 1), 7, 6, 1, 4, 0, 2);
    due("the last of eight as another", crowd(evenly(2, 3), SOFT, 1, 1).as(7, 6, 1, NONE), 0);
  }

  @Of(promise = 26, says = "BAD: also the same FEET; STUCK: there is none.")
  static void p26_none() {
    for (int n = 2; n <= 6; n++) {
      GravelHasTheLastWord x = apart(evenly(n, 3));
      due("how many", x.as(0, 1, 0, NONE), 0);
      for (int i = 0; i < n; i++) {
        due("none and i " + i, x.as(0, 1, 0, i), STUCK);
      }
      refuses("none and i", NONE, n - 1, i -> x.as(0, 1, 0, i), BAD);
      refuses("none and COLUMN", 0, n - 1, column -> x.as(0, 1, column, 0), BAD);
      due("none and the same FEET", x.as(0, 0, 0, 0), BAD);
      due("the same FEET", x.as(7, 7, 0, NONE), BAD);
      due("STUCK counted", x.status(15), n);
    }
  }

  @Of(promise = 26, says = "BAD: also the same FEET")
  static void p26_numbers() {
    for (int n = 2; n <= 6; n++) {
      GravelHasTheLastWord x = alike(evenly(n, 3));
      takes("COLUMN of SIDE " + n, 0, n - 1, column -> x.as(0, 1, column, 0), 0);
      takes("FEET", 1, 7, f -> x.as(f, 0, 0, 0), 0);
      takes("other FEET", 1, 7, f -> x.as(0, f, 0, 0), 0);
    }
    refuses("FEET of one", 0, -1, f -> foot("33 33").as(f, 0, 0, 0), BAD);
    refuses("other FEET of one", 0, -1, f -> foot("33 33").as(0, f, 0, 0), BAD);
  }

  // ---- 27: two

  private static void two(GravelHasTheLastWord x, int column, int other, int many, int first) {
    due("how many pairs", x.two(0, column, other, 0), many);
    due("the first", x.two(0, column, other, 1), first);
    due("NONE isn't refused", x.status(12) + x.status(15), 0);
  }

  @Of(promise = 27, says = "how many pairs (the one on the first COLUMN, the other on the second; not the same FEET)")
  static void p27_noneToAll() {
    two(fill(evenly(2, 3), 0, 2, 6, 6), 0, 1, 0, NONE);
    two(fill(evenly(2, 0), 0, 2, 0, 0), 0, 1, 0, NONE);
    two(fill(foot("33 33"), 0, 2, 6, 6), 0, 1, 0, NONE);
    two(fill(feet(evenly(2, 3), 0, 0, 1, 0, 0, 1), 0, 2, 6, 6), 0, 1, 2, 1);
    two(fill(alike(evenly(6, 3)), 0, 2, 6, 6, 6, 6, 6, 6), 0, 5, 56, 1);
    two(fill(apart(evenly(6, 3)), 0, 2, 6, 6, 6, 6, 6, 6), 0, 5, 0, NONE);
    two(fill(apart(evenly(6, 0)), 0, 2, 0, 0, 0, 0, 0, 0), 5, 0, 56, 1);
    two(fill(feet(evenly(2, 9), SPUR, 9, 1, SPUR, 9, 1), 0, 0, 72, 74), 0, 1, 2, 1);
    two(fill(alike(evenly(3, 3)), 0, 2, 6, 6, 5), 0, 2, 0, NONE);
    two(fill(alike(evenly(3, 3)), 0, 2, 7, 6, 6), 0, 2, 0, NONE);
    two(fill(alike(evenly(3, 3)), 0, 3, 6, 6, 4294967302L), 0, 2, 0, NONE);
  }

  @Of(promise = 27, says = "TWO by a ROW: pairs of two FEET, the one STRAIGHT up a COLUMN, the other up another, whose CRUNCHES together, "
      + "element by element, are so")
  static void p27_elementByElement() {
    GravelHasTheLastWord x = feet(evenly(2, 3), FOOT, 0, 1, LAME, 0, 1);
    two(fill(x, 0, 2, 6, 4), 0, 1, 2, 1);
    two(fill(x, 0, 2, 4, 6), 0, 1, 0, NONE);
    two(fill(x, 0, 2, 5, 5), 0, 1, 0, NONE);
    two(fill(x, 0, 2, 6, 6), 0, 1, 0, NONE);
    GravelHasTheLastWord y = feet(drive("21 12"), FOOT, 0, 1, FOOT, 0, 1);
    two(fill(y, 0, 2, 3, 3), 0, 1, 2, 1);
    two(fill(y, 0, 2, 4, 2), 0, 1, 0, NONE);
    two(fill(y, 0, 2, 2, 4), 0, 1, 0, NONE);
    GravelHasTheLastWord z = feet(drive("15 15"), FOOT, 0, 1, BOOT, 0, 1);
    two(fill(z, 0, 2, 11, 11), 0, 1, 1, 1);
    two(fill(z, 0, 2, 7, 7), 0, 1, 1, 10);
    two(fill(z, 0, 2, 11, 11), 1, 0, 1, 10);
  }

  @Of(promise = 27, says = "(NONE isn't refused.)")
  static void p27_noneIsNotRefused() {
    GravelHasTheLastWord x = fill(alike(evenly(2, 3)), 0, 2, 6, 7);
    due("the first", x.two(0, 0, 1, 1), NONE);
    due("how many", x.two(0, 0, 1, 0), 0);
    dueAll("REFUSALS", why -> x.status(12 + why), 0, 0, 0, 0, 0);
  }

  @Of(promise = 27, says = "the first: 10 times the one and the other")
  static void p27_first() {
    GravelHasTheLastWord x = feet(drive("10 11"), 0, 0, 1, 0, 0, 1, 0, 0, 1, 0, 0, 1, 0, 0, 1, 0, 0, 1, 0, 5, 1, 0, 7, 1);
    two(fill(x, 0, 2, 8, 14), 0, 1, 1, 76);
    two(fill(x, 0, 2, 8, 14), 1, 0, 1, 67);
    two(fill(x, 0, 2, 1, 9), 0, 1, 6, 7);
    two(fill(x, 0, 2, 1, 2), 0, 1, 30, 1);
    two(fill(x, 0, 2, 8, 9), 0, 1, 6, 70);
  }

  @Of(promise = 27, says = "TWO by the ROW in SHELF s: how many (what 0), the first (1; NONE).")
  static void p27_lastShelfAndColumns() {
    GravelHasTheLastWord x = feet(drive("910 911 911"), FOOT, 0, 1, FOOT, 1, 1);
    fill(x, 0, 2, 99, 99, 99);
    fill(x, 7, 2, 2, 3, 3);
    due("how many", x.two(7, 1, 2, 0), 1);
    due("the first", x.two(7, 1, 2, 1), 10);
    due("the other way", x.two(7, 2, 1, 1), 1);
    due("other COLUMNS", x.two(7, 0, 2, 0), 0);
    due("another SHELF", x.two(0, 1, 2, 1), NONE);
  }

  @Of(promise = 27, says = "BAD SHELF, columns, what, the same COLUMN")
  static void p27_numbers() {
    takes("SHELF", 0, 7, s -> fill(alike(evenly(2, 3)), Math.floorMod(s, 8), 2, 6, 6).two(s, 0, 1, 0), 56);
    for (int n = 2; n <= 6; n++) {
      GravelHasTheLastWord x = fill(alike(evenly(n, 3)), 0, 2, 6, 6, 6, 6, 6, 6);
      takes("COLUMN of SIDE " + n, 1, n - 1, column -> x.two(0, column, 0, 0), 56);
      takes("the other COLUMN", 1, n - 1, column -> x.two(0, 0, column, 0), 56);
      for (int column = 0; column < n; column++) {
        due("the same COLUMN", x.two(0, column, column, 0), BAD);
      }
      refuses("what", 0, 1, what -> x.two(0, 0, 1, what), BAD);
    }
  }

  @Of(promise = 27, says = "OTHER; NOTHING; BAD: fewer elements.")
  static void p27_twoReasons() {
    GravelHasTheLastWord x = lived();
    due("FEET", x.two(2, 0, 1, 0), OTHER);
    due("NOTHING", x.two(6, 0, 1, 0), NOTHING);
    due("FEET and the same COLUMN", x.two(2, 1, 1, 0), BAD);
    due("FEET and COLUMN", x.two(2, 3, 0, 0), BAD);
    due("NOTHING and the other COLUMN", x.two(6, 0, 3, 0), BAD);
    due("NOTHING and what", x.two(6, 0, 1, 2), BAD);
    due("SHELF", x.two(8, 0, 1, 0), BAD);
    due("fewer elements", x.two(5, 0, 1, 0), BAD);
    due("an empty ROW", x.two(4, 0, 1, 1), BAD);
    due("each counted as what it is", x.status(12) * 100 + x.status(13) * 10 + x.status(14), 711);
    for (int n = 2; n <= 6; n++) {
      GravelHasTheLastWord y = alike(evenly(n, 3));
      int[] sizes = {0, 1, n - 1, n, n + 1, 40};
      for (int size : sizes) {
        y.row(0, 2, size);
        due(size + " elements, SIDE " + n, y.two(0, 0, 1, 0), size < n ? BAD : 0);
      }
    }
  }

  // ---- 28: meant

  private static void meant(GravelHasTheLastWord x, int kinds, int a) {
    due("KINDS", x.meant(0, 0, 0, 0), kinds);
    due("the least a", x.meant(0, 0, 0, 1), a);
    due("NONE isn't refused", x.status(12) + x.status(15), 0);
  }

  @Of(promise = 28, says = "KINDS (bits) by which they would sound so, a as it is")
  static void p28_kinds() {
    int[][] rows = {{3, 3, 1}, {6, 6, 2}, {0, 0, 20}, {6, 7, 8}, {3, 1, 32}, {1, 1, 0}, {7, 7, 0}};
    for (int[] row : rows) {
      for (int kind = 0; kind < 6; kind++) {
        GravelHasTheLastWord x = fill(feet(evenly(2, 3), kind, 0, 1), 0, 2, row[0], row[1]);
        due("KINDS of " + row[0] + " " + row[1], x.meant(0, 0, 1, 0), row[2]);
      }
    }
    meant(fill(feet(drive("33 00"), FOOT, 0, 1), 0, 2, 3, 0), 33, 0);
    meant(fill(feet(drive("33 00"), FOOT, 0, 1), 0, 2, 6, 0), 10, 3);
    meant(fill(feet(evenly(6, 0), CAT, 9, 1), 0, 2, 0, 0, 0, 0, 0, 0), 63, 0);
    meant(fill(feet(ears(evenly(6, 9), 9, 1), SPUR, 9, 1), 0, 2, 0, 0, 0, 0, 0, 0), 63, 0);
    meant(fill(feet(evenly(6, 9), CAT, 9, 1), 0, 2, 15, 15, 15, 15, 15, 15), 20, 9);
  }

  @Of(promise = 28, says = "MEANT by a ROW, of FEET STRAIGHT up a COLUMN")
  static void p28_straightUp() {
    GravelHasTheLastWord x = feet(drive("13 25"), FOOT, 0, 1, LAME, 0, 1);
    int[][] rows = {{1, 2}, {3, 5}, {0, 2}, {6, 11}, {3, 2}, {4, 3}, {5, 3}};
    int[] upTheFirst = {1, 0, 0, 0, 0, 0, 0};
    int[] upTheSecond = {0, 1, 20, 8, 32, 0, 0};
    int[] leastOfLame = {NONE, NONE, NONE, NONE, 0, 1, 2};
    for (int i = 0; i < rows.length; i++) {
      fill(x, 0, 2, rows[i][0], rows[i][1]);
      due("KINDS up COLUMN 0", x.meant(0, 0, 0, 0), upTheFirst[i]);
      due("KINDS up COLUMN 1", x.meant(0, 0, 1, 0), upTheSecond[i]);
      due("the least a of LAME", x.meant(0, 1, 1, 1), leastOfLame[i]);
    }
    due("up the other COLUMN", fill(x, 0, 2, 5, 3).meant(0, 1, 0, 1), 4);
  }

  @Of(promise = 28, says = "KINDS (what 0), the least a (1; NONE).")
  static void p28_what() {
    GravelHasTheLastWord x = feet(evenly(2, 3), FOOT, 0, 1);
    dueAll("a BOOT of a 0, a FOOT of a 3", what -> fill(x, 0, 2, 6, 6).meant(0, 0, 0, what), 2, 3);
    dueAll("a FOOT of a 0", what -> fill(x, 0, 2, 3, 3).meant(0, 0, 0, what), 1, 0);
    dueAll("nobody", what -> fill(x, 0, 2, 99, 99).meant(0, 0, 0, what), 0, NONE);
  }

  @Of(promise = 28, says = "(NONE isn't refused.)")
  static void p28_noneIsNotRefused() {
    GravelHasTheLastWord x = fill(feet(evenly(2, 3), FOOT, 0, 1), 0, 2, 99, 99);
    due("the least a", x.meant(0, 0, 0, 1), NONE);
    dueAll("REFUSALS", why -> x.status(12 + why), 0, 0, 0, 0, 0);
  }

  @Of(promise = 28, says = "the least a (0 to 9) by which they would, of their KIND; NONE")
  static void p28_leastA() {
    for (int a = 0; a <= 9; a++) {
      meant(fill(feet(evenly(2, 3), FOOT, 9, 1), 0, 2, 3 + a, 3 + a), a == 9 ? 1 : a == 6 ? 4 : 0, a);
    }
    meant(fill(feet(evenly(2, 3), FOOT, 4, 1), 0, 2, 13, 13), 0, NONE);
    meant(fill(feet(evenly(2, 3), FOOT, 4, 1), 0, 2, 2, 2), 0, NONE);
    due("several, the least", fill(feet(evenly(2, 1), SOFT, 2, 1), 0, 2, 0, 0).meant(0, 0, 0, 1), 0);
    due("the first that isn't cut", fill(feet(evenly(2, 1), SOFT, 2, 1), 0, 2, 1, 1).meant(0, 0, 0, 1), 3);
    due("a CAT by any", fill(feet(evenly(2, 4), CAT, 7, 1), 0, 2, 0, 0).meant(0, 0, 0, 1), 0);
    due("a CAT by none", fill(feet(evenly(2, 4), CAT, 7, 1), 0, 2, 1, 1).meant(0, 0, 0, 1), NONE);
    due("a BOOT by none", fill(feet(evenly(2, 3), BOOT, 7, 1), 0, 2, 7, 7).meant(0, 0, 0, 1), NONE);
    due("a SPUR", fill(feet(evenly(2, 9), SPUR, 0, 1), 0, 2, 36, 37).meant(0, 0, 1, 1), 9);
    due("LAME", fill(feet(evenly(2, 3), LAME, 0, 1), 0, 2, 4, 2).meant(0, 0, 1, 1), 1);
    due("not their KIND", fill(feet(evenly(2, 3), LAME, 0, 1), 0, 2, 3, 3).meant(0, 0, 1, 1), NONE);
    due("a long isn't cut", fill(foot("33 33"), 0, 3, 3, 4294967299L).meant(0, 0, 0, 0), 0);
  }

  @Of(promise = 28, says = "MEANT by the ROW in SHELF s of FEET up a COLUMN")
  static void p28_lastOfEight() {
    GravelHasTheLastWord x = crowd(drive("933 933 933"), BOOT, 4, 1);
    fill(x, 0, 2, 1, 1, 1);
    fill(x, 7, 2, 7, 7, 7);
    fill(x, 6, 2, 10, 10, 10);
    due("KINDS", x.meant(7, 7, 2, 0), 1);
    due("the least a", x.meant(6, 7, 2, 1), 2);
    due("another COLUMN, KINDS", x.meant(7, 7, 0, 0), 0);
    due("another COLUMN, a", x.meant(6, 7, 0, 1), NONE);
    due("others of the FEET, KINDS", x.meant(7, 6, 2, 0), 0);
    due("others of the FEET, a", x.meant(6, 6, 2, 1), NONE);
    due("another SHELF, KINDS", x.meant(0, 7, 2, 0), 0);
    due("another SHELF, a", x.meant(0, 7, 2, 1), NONE);
  }

  @Of(promise = 28, says = "BAD SHELF, feet, column, what")
  static void p28_numbers() {
    takes("SHELF", 0, 7, s -> fill(foot("33 33"), Math.floorMod(s, 8), 2, 3, 3).meant(s, 0, 0, 0), 1);
    takesFeet((x, f) -> fill(x, 0, 2, 3, 3, 3, 3).meant(0, f, 0, 0), 1);
    for (int n = 2; n <= 6; n++) {
      GravelHasTheLastWord x = fill(feet(evenly(n, 3), FOOT, 0, 1), 0, 2, 3, 3, 3, 3, 3, 3);
      takes("COLUMN of SIDE " + n, 0, n - 1, column -> x.meant(0, 0, column, 0), 1);
      refuses("what", 0, 1, what -> x.meant(0, 0, 0, what), BAD);
    }
  }

  @Of(promise = 28, says = "OTHER; NOTHING; BAD: fewer elements.")
  static void p28_twoReasons() {
    GravelHasTheLastWord x = lived();
    due("FEET", x.meant(2, 0, 0, 0), OTHER);
    due("NOTHING", x.meant(6, 0, 0, 0), NOTHING);
    due("FEET on the SHELF and no such FEET", x.meant(2, 3, 0, 0), BAD);
    due("NOTHING and COLUMN", x.meant(6, 0, 3, 0), BAD);
    due("NOTHING and what", x.meant(6, 0, 0, 2), BAD);
    due("SHELF", x.meant(8, 0, 0, 0), BAD);
    due("fewer elements", x.meant(5, 0, 0, 0), BAD);
    due("an empty ROW", x.meant(4, 0, 0, 1), BAD);
    due("each counted as what it is", x.status(12) * 100 + x.status(13) * 10 + x.status(14), 611);
    for (int n = 2; n <= 6; n++) {
      GravelHasTheLastWord y = feet(evenly(n, 3), FOOT, 0, 1);
      int[] sizes = {0, 1, n - 1, n, n + 1, 40};
      for (int size : sizes) {
        y.row(0, 2, size);
        due(size + " elements, SIDE " + n, y.meant(0, 0, 0, 1), size < n ? BAD : NONE);
      }
    }
  }

  // ---- 34 to 36: heardOn, silent, heardBy

  @Of(promise = 34, says = "FEET (bits) that are HEARD on a CELL (as the CELL of its ROW of a WAY). BAD.")
  static void p34_noneToEight() {
    due("no FEET", ears(evenly(2, 9), 0, 1).heardOn(0), 0);
    due("eight", ears(alike(evenly(2, 3)), 0, 3).heardOn(3), 255);
    due("none of eight", ears(alike(evenly(2, 3)), 0, 4).heardOn(3), 0);
    due("the last of eight", ears(apart(evenly(2, 3)), 0, 10).heardOn(0), 128);
    due("all but the first", ears(apart(evenly(2, 3)), 0, 4).heardOn(0), 254);
    due("no GRAVEL", ears(apart(evenly(2, 0)), 0, 1).heardOn(0), 0);
    due("all in the RAIN", ears(apart(evenly(2, 9)), 9, 1).heardOn(0), 0);
    dueAll("LAME by ROWS", ears(feet(evenly(3, 9), LAME, 0, 1), 0, 5)::heardOn, 1, 1, 1, 0, 0, 0, 1, 1, 1);
    for (int n = 2; n <= 6; n++) {
      takes("CELL of SIDE " + n, 0, n * n - 1, ears(feet(evenly(n, 4), FOOT, 0, 1), 0, 4)::heardOn, 1);
    }
  }

  @Of(promise = 35, says = "How many CELLS have WET 0.")
  static void p35_noneToAll() {
    for (int n = 2; n <= 6; n++) {
      due("no GRAVEL anywhere", evenly(n, 0).silent(), n * n);
      due("the most everywhere", evenly(n, 9).silent(), 0);
      due("as much RAIN", ears(evenly(n, 9), 9, 1).silent(), n * n);
      due("a little less", ears(evenly(n, 9), 8, 1).silent(), 0);
      due("more RAIN", ears(evenly(n, 3), 9, 1).silent(), n * n);
      GravelHasTheLastWord x = evenly(n, 1);
      x.gravel(n * n - 1, 0);
      due("the last CELL", x.silent(), 1);
    }
    due("at first", fresh().silent(), 0);
    due("some", ears(drive("1234"), 2, 4).silent(), 2);
  }

  @Of(promise = 36, says = "How many CELLS (each as the CELL of its ROW of a WAY) some FEET are HEARD on. BAD.")
  static void p36_noneToAll() {
    for (int n = 2; n <= 6; n++) {
      due("on all", ears(feet(evenly(n, 9), SPUR, 9, 1), 0, 36).heardBy(0), n * n);
      due("where k is odd", ears(feet(evenly(n, 9), SPUR, 9, 1), 0, 37).heardBy(0), n / 2 * n);
      due("on none", ears(feet(evenly(n, 9), SPUR, 9, 1), 0, 38).heardBy(0), 0);
      due("no GRAVEL anywhere", ears(feet(evenly(n, 0), SPUR, 9, 1), 0, 1).heardBy(0), 0);
      due("all in the RAIN", ears(feet(evenly(n, 9), SPUR, 9, 1), 9, 1).heardBy(0), 0);
    }
    due("the last CELL alone", foot("33 34").heardBy(0), 1);
    GravelHasTheLastWord last = ears(crowd(evenly(2, 9), FOOT, 0, 1), 0, 9);
    due("the last of eight", last.heardBy(7), 4);
    due("another", last.heardBy(6), 0);
    due("the first CELL alone", foot("43 33").heardBy(0), 1);
    takesFeet((x, f) -> x.heardBy(f), 0);
    takesFeet((x, f) -> ears(x, 0, 3).heardBy(f), 16);
  }

  // ---- 37: gap

  @Of(promise = 37, says = "The ROW (0 on) of the first CELL of a COLUMN on which two FEET have not the same CRUNCH, STRAIGHT up; NONE.")
  static void p37_firstToNone() {
    GravelHasTheLastWord x = feet(drive("399 939 993"), SOFT, 3, 1, CAT, 3, 1);
    dueAll("COLUMN", column -> x.gap(0, 1, column), 0, 1, 2);
    dueAll("the other way", column -> x.gap(1, 0, column), 0, 1, 2);
    for (int n = 2; n <= 6; n++) {
      GravelHasTheLastWord y = feet(evenly(n, 0), FOOT, 0, 1, BOOT, 0, 1);
      due("no GRAVEL", y.gap(0, 1, n - 1), NONE);
      y.gravel(n * n - 1, 1);
      due("at the door", y.gap(0, 1, n - 1), n - 1);
      y.gravel(n - 1, 1);
      due("at the gate", y.gap(0, 1, n - 1), 0);
      due("another COLUMN", y.gap(0, 1, 0), NONE);
      due("NONE isn't refused", y.status(12) + y.status(15), 0);
    }
    due("BOOT and SPUR", feet(evenly(2, 3), BOOT, 0, 1, SPUR, 0, 1).gap(0, 1, 0), 1);
    due("alike", feet(evenly(6, 9), FOOT, 0, 1, FOOT, 0, 99).gap(0, 1, 5), NONE);
    due("all in the RAIN", ears(feet(evenly(6, 9), FOOT, 0, 1, BOOT, 0, 99), 9, 1).gap(0, 1, 5), NONE);
  }

  @Of(promise = 37, says = "BAD: also the same FEET.")
  static void p37_numbers() {
    GravelHasTheLastWord x = alike(evenly(2, 3));
    for (int f = 0; f < 8; f++) {
      due("the same FEET", x.gap(f, f, 0), BAD);
    }
    takes("FEET", 1, 7, f -> x.gap(f, 0, 0), NONE);
    takes("other FEET", 1, 7, f -> x.gap(0, f, 0), NONE);
    due("no FEET twice", x.gap(8, 8, 0), BAD);
    for (int n = 2; n <= 6; n++) {
      GravelHasTheLastWord y = alike(evenly(n, 3));
      takes("COLUMN of SIDE " + n, 0, n - 1, column -> y.gap(0, 1, column), NONE);
    }
    refuses("FEET of one", 0, -1, f -> foot("33 33").gap(f, 0, 0), BAD);
    refuses("other FEET of one", 0, -1, f -> foot("33 33").gap(0, f, 0), BAD);
  }

  @Of(promise = 37, says = "(NONE isn't refused.)")
  static void p37_noneIsNotRefused() {
    GravelHasTheLastWord x = alike(evenly(6, 3));
    due("gap", x.gap(0, 7, 5), NONE);
    dueAll("REFUSALS", why -> x.status(12 + why), 0, 0, 0, 0, 0);
  }

  // ---- 38: confused

  @Of(promise = 38, says = "FEET (bits, not themselves) that sound as some FEET STRAIGHT up at least one COLUMN. BAD.")
  static void p38_noneToAll() {
    dueAll("eight alike", alike(evenly(2, 3))::confused, 254, 253, 251, 247, 239, 223, 191, 127);
    dueAll("eight apart", apart(evenly(2, 3))::confused, 0, 0, 0, 0, 0, 0, 0, 0);
    dueAll("no GRAVEL anywhere", apart(evenly(6, 0))::confused, 254, 253, 251, 247, 239, 223, 191, 127);
    due("one alone", foot("33 33").confused(0), 0);
    due("on the last COLUMN alone", feet(drive("339 339 339"), SOFT, 3, 1, CAT, 3, 1).confused(0), 2);
    due("on the first COLUMN alone", feet(drive("933 933 933"), SOFT, 3, 1, CAT, 3, 1).confused(1), 1);
    due("not all of any COLUMN", feet(drive("393 939 393"), SOFT, 3, 1, CAT, 3, 1).confused(0), 0);
    due("on two COLUMNS two", feet(drive("10 02"), FOOT, 1, 1, LAME, 1, 1, BOOT, 0, 1, LAME, 4, 1).confused(0), 14);
    refusesFeet((x, f) -> x.confused(f));
  }

  @Of(promise = 38, says = "STRAIGHT up at least one COLUMN")
  static void p38_columnsOfTheDriveAlone() {
    due("what would be behind the last COLUMN", feet(drive("99 09"), LAME, 0, 1, SOFT, 1, 1).confused(0), 0);
    due("what would be ahead of the first", feet(drive("00 99"), BOOT, 0, 1, SPUR, 0, 1).confused(0), 0);
  }

  @Of(promise = 38, says = "WET is GRAVEL less RAIN (0 at least)")
  static void p38_inTheRain() {
    GravelHasTheLastWord x = feet(drive("59 59"), SOFT, 3, 1, CAT, 3, 1);
    due("no RAIN", x.confused(0), 2);
    x.ask(0, 5);
    due("on the first COLUMN nothing to hear", x.confused(0), 2);
    GravelHasTheLastWord y = feet(evenly(2, 9), SOFT, 3, 1, CAT, 3, 1);
    dueAll("RAIN", rain -> ears(y, rain, 4).confused(0), 2, 2, 2, 2, 2, 0, 0, 0, 0, 2);
  }

  // ---- 41: odds

  @Of(promise = 41, says = "1000 times LIKELY of FEET, by all LIKELY together (cut). BAD.")
  static void p41_cut() {
    due("one alone, the least", feet(fresh(), 0, 0, 1).odds(0), 1000);
    due("one alone, the greatest", feet(fresh(), 0, 0, 99).odds(0), 1000);
    dueAll("1 and 2", feet(fresh(), 0, 0, 1, 0, 0, 2)::odds, 333, 666);
    GravelHasTheLastWord x = feet(fresh(), 0, 0, 1);
    for (int f = 1; f < 8; f++) {
      x.feet(0, 0, 99);
    }
    dueAll("1 and seven times 99", x::odds, 1, 142, 142, 142, 142, 142, 142, 142);
    refusesFeet((y, f) -> y.odds(f));
  }
}
