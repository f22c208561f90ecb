/** The drive, its FEET and what a step sounds like, at their edges: promises 9 to 12, 16 to 18, and the terms 1 and 2. */
public final class DriveEdges extends Edges {
  public static void main(String[] args) {
    run(DriveEdges.class);
  }

  // ---- 9: side

  @Of(promise = 9, says = "SIDE n (2 to 6; 4 at first)")
  static void p09_sides() {
    takes("SIDE", 2, 6, n -> fresh().side(n), 4);
  }

  @Of(promise = 9, says = "SIDE is n, all GRAVEL 3: what SIDE was.")
  static void p09_whatItWas() {
    GravelHasTheLastWord x = fresh();
    int was = 4;
    int[] sides = {2, 6, 6, 2, 2, 3, 5, 4};
    for (int n : sides) {
      due("side " + n, x.side(n), was);
      due("SIDE", x.status(1), n);
      due("all GRAVEL", x.status(4), 3 * n * n);
      was = n;
    }
  }

  @Of(promise = 9, says = "all GRAVEL 3")
  static void p09_allGravel() {
    for (int n = 2; n <= 6; n++) {
      GravelHasTheLastWord x = evenly(n, 9);
      x.side(n);
      for (int cell = 0; cell < n * n; cell++) {
        due("GRAVEL of " + cell + " of SIDE " + n, x.cellOf(cell, 0), 3);
      }
    }
    GravelHasTheLastWord y = evenly(6, 0);
    y.side(2);
    y.side(6);
    due("GRAVEL of CELLS that were out of the drive", y.status(4), 108);
  }

  @Of(promise = 9, says = "SIDE is n, all GRAVEL 3")
  static void p09_nothingElse() {
    GravelHasTheLastWord x = lived();
    x.side(2);
    int[] want = {3, 2, 1, 5, 12, 60, 8, 77, 6};
    dueAll("status", x::status, want);
    due("holds", x.holds(3), 12);
  }

  @Of(promise = 9, says = "BAD.")
  static void p09_refusedLeavesIt() {
    int[] beyond = {7, 1, 0, -6, LEAST, MOST};
    for (int side = 2; side <= 6; side++) {
      GravelHasTheLastWord x = evenly(side, 7);
      for (int n : beyond) {
        due("side " + n, x.side(n), BAD);
      }
      due("SIDE", x.status(1), side);
      due("all GRAVEL", x.status(4), 7 * side * side);
      due("each counted once", x.status(12), beyond.length);
    }
  }

  @Of(promise = 9, says = "CELLS 0 to n times n less 1, n to a ROW (of the drive)")
  static void p09_cells() {
    for (int n = 2; n <= 6; n++) {
      GravelHasTheLastWord x = evenly(n, 5);
      takes("CELL of SIDE " + n, 0, n * n - 1, cell -> x.cellOf(cell, 0), 5);
    }
  }

  @Of(promise = 9, says = "ROW 0 at the gate, ROW n less 1 at the door; a CELL's COLUMN is its number modulo n.")
  static void p09_rowsAndColumns() {
    for (int n = 2; n <= 6; n++) {
      GravelHasTheLastWord x = feet(evenly(n, 0), FOOT, 0, 1);
      x.gravel(n * n - 1, 9);
      due("the COLUMN of the last CELL, SIDE " + n, x.sweep(n - 1), 9);
      x.gravel(n * (n - 1), 8);
      due("the COLUMN of the first CELL at the door", x.sweep(0), 8);
      x.gravel(n - 1, 7);
      due("the COLUMN of the last CELL at the gate", x.sweep(n - 1), 7);
      due("the first CELL of a WAY at the gate", x.quietest(0, 0), 0);
      due("the last CELL of a WAY at the door", x.quietest(0, n - 1), n * (n - 1));
    }
  }

  // ---- 10: gravel

  @Of(promise = 10, says = "GRAVEL of a CELL becomes v: what it was. BAD.")
  static void p10_cells() {
    for (int n = 2; n <= 6; n++) {
      int side = n;
      takes("CELL of SIDE " + n, 0, n * n - 1, cell -> evenly(side, 7).gravel(cell, 1), 7);
    }
  }

  @Of(promise = 10, says = "GRAVEL of a CELL 0 to 9")
  static void p10_gravel() {
    takes("GRAVEL", 0, 9, v -> fresh().gravel(15, v), 3);
    GravelHasTheLastWord each = drive("0123 4567 8987 6543");
    for (int cell = 0; cell < 16; cell++) {
      due("what it was, CELL " + cell, each.gravel(cell, 9 - cell / 2), cell <= 9 ? cell : 18 - cell);
    }
    for (int v = 0; v <= 9; v++) {
      GravelHasTheLastWord x = fresh();
      x.gravel(0, v);
      due("what it was", x.gravel(0, 9 - v), v);
      due("what it is", x.cellOf(0, 0), 9 - v);
      due("beside", x.cellOf(1, 0), 3);
    }
  }

  @Of(promise = 10, says = "GRAVEL of a CELL becomes v: what it was. BAD.")
  static void p10_refusedLeavesIt() {
    GravelHasTheLastWord x = fresh();
    due("v 10", x.gravel(0, 10), BAD);
    due("v -1", x.gravel(0, -1), BAD);
    due("both", x.gravel(16, 10), BAD);
    due("a CELL more", x.gravel(16, 9), BAD);
    due("all GRAVEL", x.status(4), 48);
    x.side(5);
    due("no GRAVEL came beyond the drive", x.cellOf(16, 0), 3);
    due("each counted once", x.status(12), 4);
  }

  // ---- 11: ask

  @Of(promise = 11, says = "RAIN 0 to 9 (0 at first).")
  static void p11_rain() {
    takes("RAIN", 0, 9, v -> fresh().ask(0, v), 0);
    for (int v = 0; v <= 9; v++) {
      GravelHasTheLastWord x = fresh();
      x.ask(0, v);
      due("RAIN", x.status(2), v);
      due("what it was", x.ask(0, 0), v);
    }
  }

  @Of(promise = 11, says = "EAR 1 to 99 (4 at first).")
  static void p11_ear() {
    takes("EAR", 1, 99, v -> fresh().ask(1, v), 4);
    for (int v = 1; v <= 99; v++) {
      GravelHasTheLastWord x = fresh();
      x.ask(1, v);
      due("EAR", x.status(3), v);
      due("what it was", x.ask(1, 1), v);
    }
  }

  @Of(promise = 11, says = "RAIN (what 0), EAR (1) becomes v: what it was. BAD.")
  static void p11_what() {
    GravelHasTheLastWord x = fresh();
    due("RAIN", x.ask(0, 3), 0);
    due("EAR", x.ask(1, 3), 4);
    refuses("what", 0, 1, what -> x.ask(what, 2), BAD);
    due("RAIN 10, an EAR might", x.ask(0, 10), BAD);
    due("EAR 0, the RAIN might", x.ask(1, 0), BAD);
    due("RAIN as it was", x.status(2), 3);
    due("EAR as it was", x.status(3), 3);
  }

  // ---- 12: feet

  @Of(promise = 12, says = "FEET have numbers, 0 on, 8 at most")
  static void p12_eight() {
    GravelHasTheLastWord x = fresh();
    for (int f = 0; f < 8; f++) {
      due("how many ahead", x.status(0), f);
      due("the number", x.feet(f % 6, f, f + 1), f);
    }
    due("a ninth", x.feet(0, 0, 1), FULL);
    due("a tenth", x.feet(5, 9, 99), FULL);
    due("eight", x.status(0), 8);
    due("FULL counted", x.status(16), 2);
    for (int f = 0; f < 8; f++) {
      due("KIND as it was", x.feetOf(f, 0), f % 6);
      due("a as it was", x.feetOf(f, 1), f);
      due("LIKELY as it was", x.feetOf(f, 2), f + 1);
    }
  }

  @Of(promise = 12, says = "each of a KIND: 0 FOOT; 1 BOOT, 2 SOFT, 5 LAME, each under FOOT; 3 SPUR, under BOOT; 4 CAT")
  static void p12_kinds() {
    takes("KIND", 0, 5, kind -> fresh().feet(kind, 0, 1), 0);
  }

  @Of(promise = 12, says = "a (0 to 9), LIKELY (1 to 99)")
  static void p12_a() {
    takes("a", 0, 9, a -> fresh().feet(5, a, 1), 0);
  }

  @Of(promise = 12, says = "a (0 to 9), LIKELY (1 to 99)")
  static void p12_likely() {
    takes("LIKELY", 1, 99, likely -> fresh().feet(0, 9, likely), 0);
  }

  @Of(promise = 12, says = "BAD; FULL.")
  static void p12_twoReasons() {
    GravelHasTheLastWord x = filled();
    due("FULL alone", x.feet(0, 0, 1), FULL);
    due("KIND and FULL", x.feet(6, 0, 1), BAD);
    due("a and FULL", x.feet(0, 10, 1), BAD);
    due("LIKELY and FULL", x.feet(0, 0, 0), BAD);
    due("all of it", x.feet(-1, -1, 100), BAD);
    due("each counted as what it is", x.status(12) * 10 + x.status(16), 41);
  }

  @Of(promise = 12, says = "FEET: the number. BAD")
  static void p12_refusedIsNoFeet() {
    GravelHasTheLastWord x = fresh();
    x.feet(6, 0, 1);
    x.feet(0, 10, 1);
    x.feet(0, 0, 100);
    due("FEET", x.status(0), 0);
    due("all LIKELY", x.status(5), 0);
    due("the first", x.feet(0, 0, 1), 0);
  }

  // ---- 16: feetOf

  @Of(promise = 16, says = "Of FEET: KIND (0), a (1), LIKELY (2). BAD.")
  static void p16_leastAndGreatest() {
    GravelHasTheLastWord x = feet(fresh(), 0, 0, 1, 5, 9, 99);
    dueAll("the least", what -> x.feetOf(0, what), 0, 0, 1);
    dueAll("the greatest", what -> x.feetOf(1, what), 5, 9, 99);
    refuses("what", 0, 2, what -> x.feetOf(1, what), BAD);
  }

  @Of(promise = 16, says = "BAD.")
  static void p16_feet() {
    for (int count = 0; count <= 8; count++) {
      GravelHasTheLastWord x = fresh();
      for (int f = 0; f < count; f++) {
        x.feet(3, 0, 1);
      }
      takes("FEET of " + count, 0, count - 1, f -> x.feetOf(f, 0), 3);
    }
  }

  // ---- 17: cellOf

  @Of(promise = 17, says = "WET is GRAVEL less RAIN (0 at least)")
  static void p17_wet() {
    for (int gravel = 0; gravel <= 9; gravel++) {
      for (int rain = 0; rain <= 9; rain++) {
        GravelHasTheLastWord x = ears(evenly(2, gravel), rain, 4);
        due("WET of " + gravel + " under " + rain, x.cellOf(3, 1), gravel > rain ? gravel - rain : 0);
        due("GRAVEL", x.cellOf(3, 0), gravel);
      }
    }
  }

  @Of(promise = 17, says = "Of a CELL: GRAVEL (0), WET (1). BAD.")
  static void p17_everyCell() {
    GravelHasTheLastWord x = ears(drive("0123 4567 8987 6543"), 2, 4);
    dueAll("GRAVEL", cell -> x.cellOf(cell, 0), 0, 1, 2, 3, 4, 5, 6, 7, 8, 9, 8, 7, 6, 5, 4, 3);
    dueAll("WET", cell -> x.cellOf(cell, 1), 0, 0, 0, 1, 2, 3, 4, 5, 6, 7, 6, 5, 4, 3, 2, 1);
  }

  @Of(promise = 17, says = "Of a CELL: GRAVEL (0), WET (1). BAD.")
  static void p17_numbers() {
    for (int n = 2; n <= 6; n++) {
      GravelHasTheLastWord x = ears(evenly(n, 6), 2, 4);
      takes("CELL of SIDE " + n, 0, n * n - 1, cell -> x.cellOf(cell, 1), 4);
      refuses("what", 0, 1, what -> x.cellOf(0, what), BAD);
    }
  }

  // ---- 18: crunch, and what is heard

  /** CRUNCH of FEET of a KIND and an a on a WET, as the k-th CELL. */
  private static int step(int kind, int a, int wet, int k) {
    GravelHasTheLastWord x = feet(drive("3333"), kind, a, 1);
    x.gravel(2, wet);
    return x.crunch(0, 2, k);
  }

  @Of(promise = 18, says = "if WET is 0, nothing")
  static void p18_noWet() {
    for (int kind = 0; kind < 6; kind++) {
      for (int k = 0; k < 6; k++) {
        due("no GRAVEL, KIND " + kind, step(kind, 9, 0, k), 0);
        GravelHasTheLastWord x = ears(feet(evenly(2, 9), kind, 9, 1), 9, 1);
        due("all of it in the RAIN", x.crunch(0, 0, k), 0);
        x = ears(feet(evenly(2, 4), kind, 9, 1), 7, 1);
        due("more RAIN than GRAVEL", x.crunch(0, 3, k), 0);
      }
    }
  }

  @Of(promise = 18, says = "else FOOT WET and a; BOOT twice what a FOOT has")
  static void p18_footAndBoot() {
    for (int k = 0; k < 6; k++) {
      due("FOOT, the least", step(FOOT, 0, 1, k), 1);
      due("FOOT, the greatest", step(FOOT, 9, 9, k), 18);
      due("BOOT, the least", step(BOOT, 0, 1, k), 2);
      due("BOOT, the greatest", step(BOOT, 9, 9, k), 36);
    }
    GravelHasTheLastWord x = ears(feet(evenly(2, 9), FOOT, 0, 1, BOOT, 1, 1), 8, 1);
    due("FOOT, WET 1 in the RAIN", x.crunch(0, 0, 0), 1);
    due("BOOT, WET 1 in the RAIN", x.crunch(1, 0, 0), 4);
  }

  @Of(promise = 18, says = "SPUR 1 more than a BOOT, if k is odd, else as a BOOT")
  static void p18_spur() {
    dueAll("SPUR, the least", k -> step(SPUR, 0, 1, k), 2, 3, 2, 3, 2, 3);
    dueAll("SPUR, the greatest", k -> step(SPUR, 9, 9, k), 36, 37, 36, 37, 36, 37);
  }

  @Of(promise = 18, says = "SOFT 3 less than a FOOT (0 at least)")
  static void p18_soft() {
    for (int k = 0; k < 6; k++) {
      due("a FOOT has 1", step(SOFT, 0, 1, k), 0);
      due("a FOOT has 2", step(SOFT, 1, 1, k), 0);
      due("a FOOT has 3", step(SOFT, 2, 1, k), 0);
      due("a FOOT has 3 of WET", step(SOFT, 0, 3, k), 0);
      due("a FOOT has 4", step(SOFT, 3, 1, k), 1);
      due("a FOOT has 4 of WET", step(SOFT, 0, 4, k), 1);
      due("a FOOT has 18", step(SOFT, 9, 9, k), 15);
    }
  }

  @Of(promise = 18, says = "CAT nothing, if WET is 4 at most, else as SOFT")
  static void p18_cat() {
    for (int k = 0; k < 6; k++) {
      due("WET 1", step(CAT, 9, 1, k), 0);
      due("WET 4", step(CAT, 9, 4, k), 0);
      due("WET 5", step(CAT, 9, 5, k), 11);
      due("WET 5, a 0", step(CAT, 0, 5, k), 2);
      due("WET 9", step(CAT, 9, 9, k), 15);
    }
    GravelHasTheLastWord x = feet(evenly(2, 9), CAT, 0, 1);
    x.ask(0, 4);
    due("WET 5 in the RAIN", x.crunch(0, 0, 0), 2);
    x.ask(0, 5);
    due("WET 4 in the RAIN", x.crunch(0, 0, 0), 0);
  }

  @Of(promise = 18, says = "LAME as a FOOT, if k is even, else half of that (cut)")
  static void p18_lame() {
    dueAll("a FOOT has 1", k -> step(LAME, 0, 1, k), 1, 0, 1, 0, 1, 0);
    dueAll("a FOOT has 2", k -> step(LAME, 1, 1, k), 2, 1, 2, 1, 2, 1);
    dueAll("a FOOT has 3", k -> step(LAME, 0, 3, k), 3, 1, 3, 1, 3, 1);
    dueAll("a FOOT has 17", k -> step(LAME, 9, 8, k), 17, 8, 17, 8, 17, 8);
    dueAll("a FOOT has 18", k -> step(LAME, 9, 9, k), 18, 9, 18, 9, 18, 9);
  }

  @Of(promise = 18, says = "CRUNCH of FEET on a CELL as the k-th (0 to 5). BAD.")
  static void p18_numbers() {
    for (int n = 2; n <= 6; n++) {
      GravelHasTheLastWord x = feet(evenly(n, 2), FOOT, 1, 1, FOOT, 1, 1);
      takes("k on SIDE " + n, 0, 5, k -> x.crunch(0, 0, k), 3);
      takes("CELL of SIDE " + n, 0, n * n - 1, cell -> x.crunch(0, cell, 0), 3);
      takes("FEET", 0, 1, f -> x.crunch(f, 0, 0), 3);
    }
    refuses("FEET of none", 0, -1, f -> fresh().crunch(f, 0, 0), BAD);
  }

  @Of(promise = 18, says = "CRUNCH of FEET on a CELL as the k-th CELL of a WAY (k 0 on)")
  static void p18_kIsNotTheRow() {
    GravelHasTheLastWord x = feet(evenly(2, 3), LAME, 1, 1);
    due("a CELL at the gate as the 1st", x.crunch(0, 0, 1), 2);
    due("a CELL at the door as the 0th", x.crunch(0, 2, 0), 4);
    due("as the last", x.crunch(0, 2, 5), 2);
  }

  @Of(promise = 34, says = "It is HEARD, if it is EAR at least.")
  static void p34_ear() {
    GravelHasTheLastWord x = feet(evenly(2, 9), SPUR, 9, 1);
    x.ask(1, 36);
    due("as loud as EAR", x.heardOn(0), 1);
    x.ask(1, 37);
    due("1 less than EAR", x.heardOn(0), 0);
    due("1 more, as k is odd", x.heardOn(2), 1);
    x.ask(1, 38);
    due("1 less, k odd", x.heardOn(2), 0);
    x.ask(1, 99);
    due("EAR 99", x.heardOn(2), 0);
    GravelHasTheLastWord y = ears(feet(evenly(2, 1), FOOT, 0, 1), 0, 1);
    due("CRUNCH 1, EAR 1", y.heardOn(0), 1);
    y.gravel(0, 0);
    due("nothing isn't heard by EAR 1", y.heardOn(0), 0);
  }
}
