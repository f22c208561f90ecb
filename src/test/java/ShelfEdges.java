/** SHELVES and ROWS at their edges: promises 1 to 8. */
public final class ShelfEdges extends Edges {
  private static final long[] LEAST_OF = {-128, -32768, LEAST, Long.MIN_VALUE, 0};
  private static final long[] MOST_OF = {127, 32767, MOST, Long.MAX_VALUE, 1};

  public static void main(String[] args) {
    run(ShelfEdges.class);
  }

  // ---- 1: a new object

  @Of(promise = 1, says = "SIDE 4, no FEET")
  static void p01_sideAndFeet() {
    due("SIDE", fresh().status(1), 4);
    due("FEET", fresh().status(0), 0);
    due("FEET 0", fresh().feetOf(0, 0), BAD);
    due("the last CELL", fresh().cellOf(15, 0), 3);
    due("a CELL more", fresh().cellOf(16, 0), BAD);
  }

  @Of(promise = 1, says = "SHELVES hold NOTHING")
  static void p01_shelves() {
    GravelHasTheLastWord x = fresh();
    for (int s = 0; s < 8; s++) {
      due("SHELF " + s, x.holds(s), NONE);
    }
    due("SHELVES that hold something", x.status(8), 0);
  }

  @Of(promise = 1, says = "THE TAPE is empty")
  static void p01_tape() {
    due("size", fresh().status(6), 0);
    due("wipe", fresh().wipe(), 0);
    due("the first byte", fresh().feed(0), 1);
  }

  @Of(promise = 1, says = "GRAVEL of a CELL 0 to 9 (3 at first). RAIN 0 to 9 (0 at first). EAR 1 to 99 (4 at first).")
  static void p01_numbersAtFirst() {
    GravelHasTheLastWord x = fresh();
    for (int cell = 0; cell < 16; cell++) {
      due("GRAVEL of " + cell, x.cellOf(cell, 0), 3);
    }
    due("RAIN", x.status(2), 0);
    due("EAR", x.status(3), 4);
    due("SEED", x.status(7), 1);
    due("kept", x.back(), STUCK);
  }

  @Of(promise = 1, says = "`GravelHasTheLastWord()`")
  static void p01_twoObjectsShareNothing() {
    GravelHasTheLastWord one = lived();
    GravelHasTheLastWord other = fresh();
    int[] want = {0, 4, 0, 4, 48, 0, 0, 1, 0};
    dueAll("status of the other", other::status, want);
    other.side(6);
    due("SIDE of the one", one.status(1), 3);
  }

  // ---- 2: row

  @Of(promise = 2, says = "SHELVES 0 to 7 hold NOTHING (at first), a ROW, or FEET.")
  static void p02_shelves() {
    takes("SHELF", 0, 7, s -> fresh().row(s, 0, 1), 1);
    GravelHasTheLastWord x = fresh();
    for (int s = 0; s < 8; s++) {
      x.row(s, s % 5, s);
    }
    dueAll("SHELF", x::holds, 0, 1, 2, 3, 4, 0, 1, 2);
    due("all hold something", x.status(8), 8);
  }

  @Of(promise = 2, says = "A ROW has a SORT (0 bytes, 1 shorts, 2 ints, 3 longs, 4 booleans)")
  static void p02_sorts() {
    takes("SORT", 0, 4, sort -> fresh().row(0, sort, 1), 1);
  }

  @Of(promise = 2, says = "and 0 to 40 elements")
  static void p02_lengths() {
    takes("n", 0, 40, n -> fresh().row(0, 0, n), 1);
    takes("n of longs", 0, 40, n -> fresh().row(7, 3, n), 1);
  }

  @Of(promise = 2, says = "0 to 40 elements")
  static void p02_emptyRow() {
    for (int sort = 0; sort < 5; sort++) {
      GravelHasTheLastWord x = fresh();
      x.row(3, sort, 0);
      due("holds", x.holds(3), sort);
      due("holds something", x.status(8), 1);
      due("element 0", x.element(3, 0), 0);
      due("set of element 0", x.set(3, 0, 1), BAD);
      due("set of element -1", x.set(3, -1, 1), BAD);
    }
  }

  @Of(promise = 2, says = "0 to 40 elements")
  static void p02_longestRows() {
    GravelHasTheLastWord x = fresh();
    for (int s = 0; s < 8; s++) {
      x.row(s, 3, 40);
      due("the last place", x.set(s, 39, 100 + s), 1);
      due("the first place", x.set(s, 0, 200 + s), 1);
      due("a place more", x.set(s, 40, 1), BAD);
    }
    for (int s = 0; s < 8; s++) {
      due("the last", x.element(s, 39), 100 + s);
      due("the first", x.element(s, 0), 200 + s);
      due("beside the last", x.element(s, 38), 0);
      due("behind", x.element(s, 40), 0);
    }
  }

  @Of(promise = 2, says = "(0, or not so, at first)")
  static void p02_elementsAtFirst() {
    for (int sort = 0; sort < 5; sort++) {
      GravelHasTheLastWord x = fresh();
      x.row(0, sort, 40);
      for (int i = 0; i < 40; i++) {
        due("sort " + sort + " element " + i, x.element(0, i), 0);
      }
    }
  }

  @Of(promise = 2, says = "SHELF s holds a new ROW: 1.")
  static void p02_newOverOld() {
    GravelHasTheLastWord x = fill(fresh(), 0, 3, 7, 8, 9);
    due("shorter", x.row(0, 3, 2), 1);
    due("element 0", x.element(0, 0), 0);
    due("element 2 that is no more", x.element(0, 2), 0);
    due("set of it", x.set(0, 2, 5), BAD);
    x.set(0, 1, 6);
    due("empty", x.row(0, 3, 0), 1);
    due("longest", x.row(0, 3, 40), 1);
    for (int i = 0; i < 4; i++) {
      due("element " + i + " of a new ROW", x.element(0, i), 0);
    }
    x.set(0, 39, 5);
    due("another SORT", x.row(0, 4, 40), 1);
    due("element 39 of a new ROW", x.element(0, 39), 0);
  }

  @Of(promise = 2, says = "SHELF s holds a new ROW: 1.")
  static void p02_overFeet() {
    GravelHasTheLastWord x = feet(fresh(), FOOT, 0, 1);
    x.show(0, 0);
    due("row", x.row(0, 2, 3), 1);
    due("holds", x.holds(0), 2);
    due("set", x.set(0, 2, 5), 1);
    due("FEET stay", x.status(0), 1);
  }

  @Of(promise = 2, says = "BAD.")
  static void p02_refusedLeavesTheRow() {
    GravelHasTheLastWord x = fill(fresh(), 0, 2, 5, 6);
    due("n 41", x.row(0, 0, 41), BAD);
    due("SORT 5", x.row(0, 5, 2), BAD);
    due("n -1", x.row(0, 0, -1), BAD);
    due("all of it", x.row(8, 5, 41), BAD);
    due("holds", x.holds(0), 2);
    due("element 0", x.element(0, 0), 5);
    due("element 1", x.element(0, 1), 6);
    due("each counted once", x.status(12), 4);
  }

  // ---- 3: set

  @Of(promise = 3, says = "Element i of the ROW in SHELF s becomes v: 1. BAD SHELF")
  static void p03_shelves() {
    takes("SHELF", 0, 7, s -> {
      GravelHasTheLastWord x = fresh();
      x.row(Math.floorMod(s, 8), 0, 1);
      return x.set(s, 0, 1);
    }, 1);
  }

  @Of(promise = 3, says = "BAD i.")
  static void p03_places() {
    int[] sizes = {1, 2, 39, 40};
    for (int size : sizes) {
      takes("i of " + size, 0, size - 1, i -> {
        GravelHasTheLastWord x = fresh();
        x.row(0, 2, size);
        return x.set(0, i, 5);
      }, 1);
    }
  }

  @Of(promise = 3, says = "OTHER; NOTHING; BAD i.")
  static void p03_twoReasons() {
    GravelHasTheLastWord x = lived();
    due("FEET and i", x.set(2, 40, 1), OTHER);
    due("FEET and i -1", x.set(2, -1, 1), OTHER);
    due("NOTHING and i", x.set(6, 40, 1), NOTHING);
    due("NOTHING and i -1", x.set(6, -1, 1), NOTHING);
    due("SHELF and i", x.set(8, 40, 1), BAD);
    due("FEET alone", x.set(2, 0, 1), OTHER);
    due("NOTHING alone", x.set(6, 0, 1), NOTHING);
    due("each counted as what it is", x.status(12) * 100 + x.status(13) * 10 + x.status(14), 133);
  }

  @Of(promise = 3, says = "Element i of the ROW in SHELF s becomes v")
  static void p03_noOtherElement() {
    GravelHasTheLastWord x = fill(fresh(), 0, 1, 10, 20, 30);
    fill(x, 1, 1, 40, 50, 60);
    x.set(0, 1, 99);
    long[] want = {10, 99, 30};
    for (int i = 0; i < 3; i++) {
      due("element " + i, x.element(0, i), want[i]);
      due("element of the other " + i, x.element(1, i), 40 + 10 * i);
    }
  }

  @Of(promise = 3, says = "what is put in keeps its lowest bits")
  static void p03_leastAndGreatest() {
    for (int sort = 0; sort < 5; sort++) {
      GravelHasTheLastWord x = fresh();
      x.row(0, sort, 40);
      due("set", x.set(0, 0, LEAST_OF[sort]), 1);
      due("set", x.set(0, 39, MOST_OF[sort]), 1);
      due("the least of sort " + sort, x.element(0, 0), LEAST_OF[sort]);
      due("the greatest of sort " + sort, x.element(0, 39), MOST_OF[sort]);
      due("beside the least", x.element(0, 1), 0);
      due("beside the greatest", x.element(0, 38), 0);
    }
  }

  @Of(promise = 3, says = "what is put in keeps its lowest bits")
  static void p03_wraps() {
    for (int sort = 0; sort < 3; sort++) {
      GravelHasTheLastWord x = fresh();
      x.row(0, sort, 1);
      x.set(0, 0, MOST_OF[sort] + 1);
      due("next beyond the greatest of sort " + sort, x.element(0, 0), LEAST_OF[sort]);
      x.set(0, 0, LEAST_OF[sort] - 1);
      due("next beyond the least of sort " + sort, x.element(0, 0), MOST_OF[sort]);
      x.set(0, 0, 2 * (MOST_OF[sort] + 1));
      due("all bits behind of sort " + sort, x.element(0, 0), 0);
      x.set(0, 0, 2 * MOST_OF[sort] + 1);
      due("all bits of sort " + sort, x.element(0, 0), -1);
      x.set(0, 0, Long.MIN_VALUE);
      due("the least long in sort " + sort, x.element(0, 0), 0);
      x.set(0, 0, Long.MAX_VALUE);
      due("the greatest long in sort " + sort, x.element(0, 0), -1);
      x.set(0, 0, 0x1122334455667788L);
      due("lowest bits of sort " + sort, x.element(0, 0), new long[] {-120, 0x7788, 0x55667788}[sort]);
    }
  }

  @Of(promise = 3, says = "(of booleans: whether it is not 0); told they are numbers (1, 0)")
  static void p03_booleans() {
    GravelHasTheLastWord x = fresh();
    x.row(0, 4, 1);
    long[] so = {1, -1, 2, 256, 65536, 1L << 32, Long.MIN_VALUE, Long.MAX_VALUE};
    for (long v : so) {
      x.set(0, 0, 0);
      due("0", x.element(0, 0), 0);
      x.set(0, 0, v);
      due("" + v, x.element(0, 0), 1);
    }
  }

  // ---- 4: copy

  private static GravelHasTheLastWord two(int sort) {
    GravelHasTheLastWord x = fill(fresh(), 0, sort, 1, 0, 1, 1, 0);
    x.row(1, sort, 3);
    return x;
  }

  @Of(promise = 4, says = "BAD SHELVES")
  static void p04_shelves() {
    takes("the one SHELF", 0, 7, p -> {
      GravelHasTheLastWord x = fresh();
      x.row(Math.floorMod(p, 8), 0, 1);
      x.row(3, 0, 1);
      return x.copy(p, 3, 0, 0, 1);
    }, 1);
    takes("the other SHELF", 0, 7, q -> {
      GravelHasTheLastWord x = fresh();
      x.row(Math.floorMod(q, 8), 0, 1);
      x.row(3, 0, 1);
      return x.copy(3, q, 0, 0, 1);
    }, 1);
  }

  @Of(promise = 4, says = "BAD the others.")
  static void p04_places() {
    for (int sort = 0; sort < 5; sort++) {
      int of = sort;
      takes("i", 0, 4, i -> two(of).copy(0, 1, i, 0, 1), 1);
      takes("j", 0, 2, j -> two(of).copy(0, 1, 0, j, 1), 1);
    }
  }

  @Of(promise = 4, says = "BAD the others.")
  static void p04_howMany() {
    for (int n = 0; n <= 3; n++) {
      due("n " + n, two(2).copy(0, 1, 2, 0, n), n);
    }
    refuses("n, as the one ends", 0, 3, n -> two(2).copy(0, 1, 2, 0, n), BAD);
    for (int n = 0; n <= 2; n++) {
      due("n " + n, two(2).copy(0, 1, 0, 1, n), n);
    }
    refuses("n, as the other ends", 0, 2, n -> two(2).copy(0, 1, 0, 1, n), BAD);
  }

  @Of(promise = 4, says = "BAD the others.")
  static void p04_sumsThatWrap() {
    due("i and n", two(2).copy(0, 1, MOST, 0, MOST), BAD);
    due("i and n", two(2).copy(0, 1, MOST, 0, 1), BAD);
    due("i and n", two(2).copy(0, 1, 1, 0, MOST), BAD);
    due("j and n", two(2).copy(0, 1, 0, MOST, 1), BAD);
    due("j and n", two(2).copy(1, 0, 0, 1, MOST), BAD);
    due("i and n less than 0", two(2).copy(0, 1, 3, 0, -1), BAD);
    due("n the least", two(2).copy(0, 1, 3, 3, LEAST), BAD);
    due("i the least, n the most", two(2).copy(0, 1, LEAST, 0, MOST), BAD);
    due("i -1, n 1", two(2).copy(0, 1, -1, 0, 1), BAD);
    due("j -1, n 1", two(2).copy(0, 1, 0, -1, 1), BAD);
    due("i -1, n 0", two(2).copy(0, 1, -1, 0, 0), BAD);
    due("j -1, n 0", two(2).copy(0, 1, 0, -1, 0), BAD);
    due("i 6, n 0", two(2).copy(0, 1, 6, 0, 0), BAD);
    due("j 4, n 0", two(2).copy(0, 1, 0, 4, 0), BAD);
  }

  @Of(promise = 4, says = "n elements of the ROW in SHELF p from place i on come to places j on of that in q")
  static void p04_noneAtAll() {
    GravelHasTheLastWord x = fill(fresh(), 0, 2, 7);
    x.row(1, 2, 0);
    x.row(2, 2, 0);
    due("of two empty ROWS", x.copy(1, 2, 0, 0, 0), 0);
    due("of an empty ROW", x.copy(1, 0, 0, 0, 0), 0);
    due("to an empty ROW", x.copy(0, 1, 0, 0, 0), 0);
    due("one of an empty ROW", x.copy(1, 0, 0, 0, 1), BAD);
    due("one to an empty ROW", x.copy(0, 1, 0, 0, 1), BAD);
    due("as it was", x.element(0, 0), 7);
  }

  @Of(promise = 4, says = "n elements of the ROW in SHELF p from place i on come to places j on of that in q (as they were): n.")
  static void p04_theLongest() {
    GravelHasTheLastWord x = fresh();
    x.row(6, 3, 40);
    x.row(7, 3, 40);
    for (int i = 0; i < 40; i++) {
      x.set(6, i, i == 39 ? Long.MIN_VALUE : i + 1);
    }
    due("all 40", x.copy(6, 7, 0, 0, 40), 40);
    for (int i = 0; i < 40; i++) {
      due("element " + i, x.element(7, i), i == 39 ? Long.MIN_VALUE : i + 1);
    }
    due("41", x.copy(6, 7, 0, 0, 41), BAD);
    due("40 from 1 on", x.copy(6, 7, 1, 0, 40), BAD);
    due("the last to the first", x.copy(6, 7, 39, 0, 1), 1);
    due("the last", x.element(7, 0), Long.MIN_VALUE);
    due("the first to the last", x.copy(6, 7, 0, 39, 1), 1);
    due("the first", x.element(7, 39), 1);
    due("beside the last", x.element(7, 38), 39);
    due("SHELF 6 stays", x.element(6, 0), 1);
  }

  private static void inOneRow(int i, int j, int n, long... want) {
    GravelHasTheLastWord x = fill(fresh(), 4, 1, 1, 2, 3, 4, 5);
    due("copy", x.copy(4, 4, i, j, n), n);
    for (int k = 0; k < want.length; k++) {
      due(i + " to " + j + ", " + n + " of them, element " + k, x.element(4, k), want[k]);
    }
  }

  @Of(promise = 4, says = "(as they were)")
  static void p04_asTheyWere() {
    inOneRow(0, 1, 4, 1, 1, 2, 3, 4);
    inOneRow(1, 0, 4, 2, 3, 4, 5, 5);
    inOneRow(0, 2, 3, 1, 2, 1, 2, 3);
    inOneRow(2, 0, 3, 3, 4, 5, 4, 5);
    inOneRow(0, 0, 5, 1, 2, 3, 4, 5);
    inOneRow(4, 0, 1, 5, 2, 3, 4, 5);
    inOneRow(0, 4, 1, 1, 2, 3, 4, 1);
    inOneRow(2, 3, 0, 1, 2, 3, 4, 5);
  }

  @Of(promise = 4, says = "(also ROWS of two SORTS, if both hold something)")
  static void p04_twoSorts() {
    for (int one = 0; one < 5; one++) {
      for (int other = 0; other < 5; other++) {
        GravelHasTheLastWord x = fresh();
        x.row(0, one, 2);
        x.row(1, other, 2);
        due("SORTS " + one + " and " + other, x.copy(0, 1, 0, 0, 2), one == other ? 2 : OTHER);
        due("none of them", x.copy(0, 1, 0, 0, 0), one == other ? 0 : OTHER);
      }
    }
  }

  @Of(promise = 4, says = "OTHER (also ROWS of two SORTS, if both hold something); NOTHING; BAD the others.")
  static void p04_twoReasons() {
    GravelHasTheLastWord x = lived();
    due("FEET to NOTHING", x.copy(2, 6, 0, 0, 1), OTHER);
    due("NOTHING to FEET", x.copy(6, 2, 0, 0, 1), OTHER);
    due("FEET to FEET", x.copy(2, 3, 0, 0, 0), OTHER);
    due("FEET to a ROW", x.copy(2, 0, 9, 9, 9), OTHER);
    due("a ROW to FEET", x.copy(0, 2, 9, 9, 9), OTHER);
    due("two SORTS and n", x.copy(0, 1, 0, 0, -1), OTHER);
    due("a ROW to NOTHING", x.copy(0, 6, -1, 0, 1), NOTHING);
    due("NOTHING to a ROW", x.copy(6, 0, 0, -1, 1), NOTHING);
    due("NOTHING to NOTHING", x.copy(6, 7, 0, 0, -1), NOTHING);
    due("NOTHING to itself", x.copy(6, 6, 0, 0, 0), NOTHING);
    due("FEET and no SHELF", x.copy(2, 8, 0, 0, 1), BAD);
    due("no SHELF and NOTHING", x.copy(-1, 6, 0, 0, 1), BAD);
    due("each counted as what it is", x.status(12) * 100 + x.status(13) * 10 + x.status(14), 264);
  }

  // ---- 5: element

  @Of(promise = 5, says = "Element i of the ROW; 0: none, no ROW (nothing is refused).")
  static void p05_none() {
    GravelHasTheLastWord x = lived();
    fill(x, 7, 3, Long.MIN_VALUE, Long.MAX_VALUE);
    due("the first", x.element(7, 0), Long.MIN_VALUE);
    due("the last", x.element(7, 1), Long.MAX_VALUE);
    refuses("i", 0, 1, i -> (int) x.element(7, i), 0);
    refuses("SHELF", 0, 7, s -> (int) x.element(s, 0), 0);
    due("FEET", x.element(2, 0), 0);
    due("NOTHING", x.element(6, 0), 0);
    due("an empty ROW", x.element(4, 0), 0);
    due("no SHELF, no i", x.element(LEAST, MOST), 0);
    due("refused", x.status(12) + x.status(13) + x.status(14) + x.status(15), 0);
  }

  @Of(promise = 5, says = "0: none, no ROW")
  static void p05_notOfTheNextShelf() {
    GravelHasTheLastWord x = fresh();
    for (int s = 0; s < 8; s++) {
      x.row(s, 2, 40);
      x.set(s, 0, 5);
      x.set(s, 39, 6);
    }
    for (int s = 0; s < 8; s++) {
      due("behind the last", x.element(s, 40), 0);
      due("ahead of the first", x.element(s, -1), 0);
    }
  }

  // ---- 6: holds

  @Of(promise = 6, says = "What SHELF s holds: NONE NOTHING, no SHELF; 0 to 4 a ROW by its SORT; 10 and the number of FEET.")
  static void p06_everything() {
    GravelHasTheLastWord x = feet(fresh(), 0, 0, 1, 0, 0, 1, 0, 0, 1, 0, 0, 1, 0, 0, 1, 0, 0, 1, 0, 0, 1, 0, 0, 1);
    for (int f = 0; f < 8; f++) {
      x.show(f, f);
    }
    dueAll("FEET", x::holds, 10, 11, 12, 13, 14, 15, 16, 17);
    for (int sort = 0; sort < 5; sort++) {
      x.row(sort, sort, 0);
      x.row(7 - sort / 2, sort, 40);
      due("an empty ROW", x.holds(sort), sort);
      due("the longest ROW", x.holds(7 - sort / 2), sort);
    }
    x.show(0, NONE);
    due("NOTHING", x.holds(0), NONE);
    refuses("no SHELF", 0, 7, x::holds, NONE);
    due("refused", x.status(12), 0);
  }

  // ---- 7: show

  @Of(promise = 7, says = "SHELF s holds FEET, or NOTHING (feet NONE): 1. BAD.")
  static void p07_feet() {
    for (int count = 0; count <= 8; count++) {
      int all = count;
      takes("FEET of " + count, NONE, count - 1, f -> {
        GravelHasTheLastWord x = fresh();
        for (int i = 0; i < all; i++) {
          x.feet(0, 0, 1);
        }
        return x.show(0, f);
      }, 1);
    }
  }

  @Of(promise = 7, says = "BAD.")
  static void p07_shelves() {
    takes("SHELF for FEET", 0, 7, s -> feet(fresh(), 0, 0, 1).show(s, 0), 1);
    takes("SHELF for NOTHING", 0, 7, s -> fresh().show(s, NONE), 1);
  }

  @Of(promise = 7, says = "SHELF s holds FEET, or NOTHING (feet NONE)")
  static void p07_overWhatWas() {
    GravelHasTheLastWord x = lived();
    due("FEET over a ROW", x.show(0, 2), 1);
    due("holds", x.holds(0), 12);
    due("element", x.element(0, 0), 0);
    due("set", x.set(0, 0, 1), OTHER);
    due("NOTHING over FEET", x.show(0, NONE), 1);
    due("holds", x.holds(0), NONE);
    due("NOTHING over NOTHING", x.show(0, NONE), 1);
    due("NOTHING over a ROW", x.show(1, NONE), 1);
    due("set", x.set(1, 0, 1), NOTHING);
    due("FEET over FEET", x.show(2, 0), 1);
    due("holds", x.holds(2), 10);
    due("the same FEET twice", x.show(3, 0), 1);
    due("SHELVES that hold something", x.status(8), 4);
    due("refused", x.show(2, 3), BAD);
    due("holds as before", x.holds(2), 10);
  }

  // ---- 8: says

  private static GravelHasTheLastWord six(String gravel) {
    GravelHasTheLastWord x = drive(gravel);
    for (int kind = 0; kind < 6; kind++) {
      x.feet(kind, 1, 90 + kind);
      x.show(kind, kind);
    }
    return x;
  }

  @Of(promise = 8, says = "0 FOOT; 1 BOOT, 2 SOFT, 5 LAME, each under FOOT; 3 SPUR, under BOOT; 4 CAT, under SOFT")
  static void p08_kindsUnderKinds() {
    GravelHasTheLastWord x = six("5333");
    // By own KINDS, then by the KIND that they are taken for; a FOOT has 6.
    int[][] want = {
      {90, OTHER, OTHER, OTHER, OTHER, OTHER}, {91, 12, OTHER, OTHER, OTHER, OTHER},
      {92, OTHER, 3, OTHER, OTHER, OTHER}, {93, 13, OTHER, 13, OTHER, OTHER},
      {94, OTHER, 3, OTHER, 3, OTHER}, {95, OTHER, OTHER, OTHER, OTHER, 3}
    };
    for (int f = 0; f < 6; f++) {
      int s = f;
      dueAll("KIND " + f + " taken for", kind -> x.says(s, kind), want[f]);
    }
    due("OTHER, how often", x.status(13), 23);
  }

  @Of(promise = 8, says = "BOOT, SPUR, SOFT, CAT, LAME the CRUNCH on CELL 0 as the 1st (k 1) of a WAY, by their own KIND.")
  static void p08_onCellZero() {
    GravelHasTheLastWord x = six("4999");
    due("a CAT taken for SOFT, WET 4", x.says(CAT, SOFT), 0);
    due("SOFT, WET 4", x.says(SOFT, SOFT), 2);
    due("a SPUR taken for a BOOT, k 1", x.says(SPUR, BOOT), 11);
    due("LAME, k 1, cut", x.says(LAME, LAME), 2);
    x.gravel(0, 0);
    for (int kind = 1; kind < 6; kind++) {
      due("no GRAVEL on CELL 0", x.says(kind, kind), 0);
    }
    due("LIKELY, no GRAVEL or not", x.says(FOOT, FOOT), 90);
    x.gravel(0, 9);
    x.ask(0, 8);
    due("WET 1", x.says(BOOT, BOOT), 4);
    x.ask(0, 9);
    due("WET 0", x.says(BOOT, BOOT), 0);
  }

  @Of(promise = 8, says = "What the FEET in SHELF s, taken for some of a KIND, say: FOOT LIKELY")
  static void p08_likely() {
    int[] all = {1, 2, 98, 99};
    for (int likely : all) {
      for (int kind = 0; kind < 6; kind++) {
        GravelHasTheLastWord x = feet(evenly(2, 9), CAT, 9, 50, kind, 9, likely);
        x.show(7, 1);
        due("LIKELY " + likely + " of KIND " + kind, x.says(7, FOOT), likely);
      }
    }
  }

  @Of(promise = 8, says = "What the FEET in SHELF s, taken for some of a KIND, say")
  static void p08_lastOfEight() {
    GravelHasTheLastWord x = crowd(evenly(6, 9), SPUR, 9, 77);
    x.show(0, 6);
    x.show(7, 7);
    due("the last as a FOOT", x.says(7, FOOT), 77);
    due("the last as a BOOT", x.says(7, BOOT), 37);
    due("the last as a SPUR", x.says(7, SPUR), 37);
    due("the last as a CAT", x.says(7, CAT), OTHER);
    due("another as a CAT", x.says(0, CAT), 6);
  }

  @Of(promise = 8, says = "BAD SHELF, KIND")
  static void p08_numbers() {
    takes("SHELF", 0, 7, s -> {
      GravelHasTheLastWord x = feet(fresh(), BOOT, 0, 5);
      x.show(Math.floorMod(s, 8), 0);
      return x.says(s, 0);
    }, 5);
    GravelHasTheLastWord x = six("3333");
    refuses("KIND", 0, 5, kind -> x.says(0, kind), BAD);
  }

  @Of(promise = 8, says = "OTHER (also if they are of no such KIND nor of one under it); NOTHING.")
  static void p08_twoReasons() {
    GravelHasTheLastWord x = lived();
    due("a ROW", x.says(0, 0), OTHER);
    due("an empty ROW", x.says(4, 5), OTHER);
    due("NOTHING", x.says(6, 0), NOTHING);
    due("NOTHING and KIND", x.says(6, 6), BAD);
    due("a ROW and KIND", x.says(0, -1), BAD);
    due("FEET and KIND", x.says(2, 6), BAD);
    due("SHELF and KIND", x.says(8, 6), BAD);
    due("each counted as what it is", x.status(12) * 100 + x.status(13) * 10 + x.status(14), 421);
  }
}
