/** One test a promise, and more: ordinary inputs, the edges that the document names, and what is refused. */
public final class PromisesTest {
  private static final int NONE = GravelHasTheLastWord.NONE;
  private static final int BAD = -2;
  private static final int OTHER = -3;
  private static final int NOTHING = -4;
  private static final int STUCK = -5;
  private static final int FULL = -6;
  private static final int MOST = Integer.MAX_VALUE;
  private static final int LEAST = Integer.MIN_VALUE;

  private static int wrong = 0;
  private static int promise = 0;

  private static void due(String what, long got, long want) {
    if (got != want) {
      wrong++;
      System.out.println("promise " + promise + ": " + what + " answered " + got + ", due is " + want);
    }
  }

  private static GravelHasTheLastWord fresh(int number) {
    promise = number;
    return new GravelHasTheLastWord();
  }

  /**
   * Side 3, by rows 5 1 5, 2 9 4, 6 3 1, EAR 4, and FEET that sound by it: 0 FOOT a 0 likely 10, 1 BOOT a 0
   * likely 20, 2 SOFT a 3 likely 10 (as 0), 3 CAT a 3 likely 5.
   */
  private static GravelHasTheLastWord drive(int number) {
    GravelHasTheLastWord x = fresh(number);
    x.side(3);
    int[] gravel = {5, 1, 5, 2, 9, 4, 6, 3, 1};
    for (int cell = 0; cell < 9; cell++) {
      x.gravel(cell, gravel[cell]);
    }
    x.feet(0, 0, 10);
    x.feet(1, 0, 20);
    x.feet(2, 3, 10);
    x.feet(4, 3, 5);
    return x;
  }

  private static void fill(GravelHasTheLastWord x, int s, int... v) {
    x.row(s, 2, v.length);
    for (int i = 0; i < v.length; i++) {
      x.set(s, i, v[i]);
    }
  }

  private static int told(GravelHasTheLastWord x, String text) {
    for (int i = 0; i < text.length(); i++) {
      x.feed(text.charAt(i));
    }
    return x.drive();
  }

  // What every one of the tests below that refuses leans on: the answer, and that it is counted.
  private static void refused(GravelHasTheLastWord x, String what, long got, int why, int countBefore) {
    due(what, got, why);
    due(what + ", counted", x.status(10 - why), countBefore + 1);
  }

  private static void newObject() {
    GravelHasTheLastWord x = fresh(1);
    int[] want = {0, 4, 0, 4, 48, 0, 0, 1, 0, -1, -1, -1, 0, 0, 0, 0, 0, -1};
    for (int what = 0; what < want.length; what++) {
      due("status(" + what + ")", x.status(what), want[what]);
    }
    for (int s = 0; s < 8; s++) {
      due("holds", x.holds(s), NONE);
    }
    due("drive() of nothing", x.drive(), -20);
  }

  private static void rows() {
    GravelHasTheLastWord x = fresh(2);
    due("row", x.row(0, 0, 0), 1);
    due("row", x.row(7, 4, 40), 1);
    due("holds", x.holds(0), 0);
    due("holds", x.holds(7), 4);
    due("SHELF 8", x.row(8, 0, 1), BAD);
    due("SHELF -1", x.row(-1, 0, 1), BAD);
    due("SORT 5", x.row(0, 5, 1), BAD);
    due("SORT -1", x.row(0, -1, 1), BAD);
    due("n 41", x.row(0, 0, 41), BAD);
    due("n -1", x.row(0, 0, -1), BAD);
    due("counted", x.status(12), 6);
    x.set(7, 39, 5);
    due("row again", x.row(7, 3, 40), 1);
    due("anew", x.element(7, 39), 0);
    x.feet(0, 0, 1);
    x.show(1, 0);
    due("over FEET", x.row(1, 1, 3), 1);
    due("holds", x.holds(1), 1);
  }

  private static void sets() {
    GravelHasTheLastWord x = fresh(3);
    for (int sort = 0; sort < 5; sort++) {
      x.row(sort, sort, 2);
    }
    long[][] rows = {
      {0, 127, 127}, {0, 128, -128}, {0, 256, 0}, {0, -1, -1}, {0, 511, -1},
      {1, 32767, 32767}, {1, 32768, -32768}, {1, 65536, 0},
      {2, 2147483648L, LEAST}, {2, 4294967296L, 0}, {2, MOST, MOST},
      {3, Long.MIN_VALUE, Long.MIN_VALUE}, {3, 4294967296L, 4294967296L},
      {4, 2, 1}, {4, 256, 1}, {4, Long.MIN_VALUE, 1}, {4, 0, 0}
    };
    for (long[] r : rows) {
      int s = (int) r[0];
      due("set", x.set(s, 1, r[1]), 1);
      due("element of sort " + s, x.element(s, 1), r[2]);
      due("element beside", x.element(s, 0), 0);
    }
    x.feet(0, 0, 1);
    x.show(5, 0);
    due("SHELF 8", x.set(8, 0, 1), BAD);
    due("SHELF -1", x.set(-1, 0, 1), BAD);
    due("FEET", x.set(5, 9, 1), OTHER);
    due("NOTHING", x.set(6, 9, 1), NOTHING);
    due("i 2", x.set(0, 2, 1), BAD);
    due("i -1", x.set(0, -1, 1), BAD);
  }

  private static void copies() {
    GravelHasTheLastWord x = fresh(4);
    fill(x, 0, 1, 2, 3, 4, 5);
    due("copy up", x.copy(0, 0, 0, 1, 4), 4);
    int[] up = {1, 1, 2, 3, 4};
    for (int i = 0; i < 5; i++) {
      due("as they were, up", x.element(0, i), up[i]);
    }
    fill(x, 0, 1, 2, 3, 4, 5);
    x.copy(0, 0, 1, 0, 4);
    int[] down = {2, 3, 4, 5, 5};
    for (int i = 0; i < 5; i++) {
      due("as they were, down", x.element(0, i), down[i]);
    }
    x.row(1, 2, 3);
    due("copy", x.copy(0, 1, 1, 1, 2), 2);
    due("element", x.element(1, 0), 0);
    due("element", x.element(1, 1), 3);
    due("element", x.element(1, 2), 4);
    due("none", x.copy(0, 1, 5, 3, 0), 0);
    copiesRefused(x);
  }

  private static void copiesRefused(GravelHasTheLastWord x) {
    x.row(2, 3, 3);
    x.feet(0, 0, 1);
    x.show(3, 0);
    due("SHELF 8", x.copy(8, 3, 0, 0, 1), BAD);
    due("SHELF -1", x.copy(3, -1, 0, 0, 1), BAD);
    due("FEET to NOTHING", x.copy(3, 4, 0, 0, 1), OTHER);
    due("NOTHING to FEET", x.copy(4, 3, 0, 0, 1), OTHER);
    due("two SORTS", x.copy(0, 2, -1, 0, 1), OTHER);
    due("to NOTHING", x.copy(0, 4, -1, 0, 1), NOTHING);
    due("from NOTHING", x.copy(4, 0, -1, 0, 1), NOTHING);
    due("i -1", x.copy(0, 1, -1, 0, 1), BAD);
    due("j -1", x.copy(0, 1, 0, -1, 1), BAD);
    due("n -1", x.copy(0, 1, 0, 0, -1), BAD);
    due("too many there", x.copy(0, 1, 0, 0, 4), BAD);
    due("too many here", x.copy(1, 0, 0, 0, 4), BAD);
    due("wrapping", x.copy(0, 1, 1, 1, MOST), BAD);
    due("wrapping", x.copy(0, 1, MOST, 0, 1), BAD);
    due("wrapping", x.copy(0, 1, 0, MOST, MOST), BAD);
  }

  private static void elements() {
    GravelHasTheLastWord x = fresh(5);
    fill(x, 0, 7);
    due("element", x.element(0, 0), 7);
    due("behind", x.element(0, 1), 0);
    due("ahead", x.element(0, -1), 0);
    due("no ROW", x.element(1, 0), 0);
    due("no SHELF", x.element(8, 0), 0);
    due("no SHELF", x.element(-1, 0), 0);
    x.feet(0, 0, 1);
    x.show(0, 0);
    due("FEET", x.element(0, 0), 0);
    due("not refused", x.status(12) + x.status(13) + x.status(14), 0);
  }

  private static void holdings() {
    GravelHasTheLastWord x = fresh(6);
    x.feet(0, 0, 1);
    x.feet(0, 0, 1);
    x.show(0, 1);
    due("FEET 1", x.holds(0), 11);
    for (int sort = 0; sort < 5; sort++) {
      x.row(0, sort, 1);
      due("ROW", x.holds(0), sort);
    }
    due("NOTHING", x.holds(1), NONE);
    due("no SHELF", x.holds(8), NONE);
    due("no SHELF", x.holds(-1), NONE);
    due("not refused", x.status(12), 0);
  }

  private static void shows() {
    GravelHasTheLastWord x = fresh(7);
    due("no FEET", x.show(0, 0), BAD);
    x.feet(0, 0, 1);
    due("show", x.show(0, 0), 1);
    due("holds", x.holds(0), 10);
    due("FEET 1", x.show(0, 1), BAD);
    due("FEET -2", x.show(0, -2), BAD);
    due("SHELF 8", x.show(8, 0), BAD);
    due("as it was", x.holds(0), 10);
    due("NOTHING", x.show(0, NONE), 1);
    due("holds", x.holds(0), NONE);
    due("SHELF -1", x.show(-1, NONE), BAD);
    x.row(0, 0, 1);
    due("over a ROW", x.show(0, 0), 1);
    due("holds", x.holds(0), 10);
  }

  private static void sayings() {
    GravelHasTheLastWord x = fresh(8);
    for (int kind = 0; kind < 6; kind++) {
      x.feet(kind, 2, 70 + kind);
      x.show(kind, kind);
    }
    // By kinds of FEET, then by the KIND that they are taken for; GRAVEL 3, so that a FOOT has 5.
    int[][] want = {
      {70, OTHER, OTHER, OTHER, OTHER, OTHER}, {71, 10, OTHER, OTHER, OTHER, OTHER},
      {72, OTHER, 2, OTHER, OTHER, OTHER}, {73, 11, OTHER, 11, OTHER, OTHER},
      {74, OTHER, 0, OTHER, 0, OTHER}, {75, OTHER, OTHER, OTHER, OTHER, 2}
    };
    for (int f = 0; f < 6; f++) {
      for (int kind = 0; kind < 6; kind++) {
        due("says(" + f + ", " + kind + ")", x.says(f, kind), want[f][kind]);
      }
    }
    x.gravel(0, 6);
    due("a CAT taken for SOFT", x.says(4, 2), 5);
    x.ask(0, 2);
    due("a CAT in the RAIN", x.says(4, 2), 0);
    x.row(6, 0, 1);
    due("a ROW", x.says(6, 0), OTHER);
    due("NOTHING", x.says(7, 0), NOTHING);
    due("KIND 6", x.says(7, 6), BAD);
    due("KIND -1", x.says(7, -1), BAD);
    due("SHELF 8", x.says(8, 0), BAD);
  }

  private static void sides() {
    GravelHasTheLastWord x = fresh(9);
    x.gravel(15, 0);
    due("side", x.side(6), 4);
    due("all GRAVEL", x.status(4), 108);
    x.gravel(35, 9);
    due("the same", x.side(6), 6);
    due("all GRAVEL", x.status(4), 108);
    due("side", x.side(2), 6);
    due("all GRAVEL", x.status(4), 12);
    due("7", x.side(7), BAD);
    due("1", x.side(1), BAD);
    due("-1", x.side(LEAST), BAD);
    due("as it was", x.status(1), 2);
  }

  private static void gravels() {
    GravelHasTheLastWord x = fresh(10);
    due("gravel", x.gravel(15, 9), 3);
    due("gravel", x.gravel(15, 0), 9);
    due("gravel", x.cellOf(15, 0), 0);
    due("CELL 16", x.gravel(16, 1), BAD);
    due("CELL -1", x.gravel(-1, 1), BAD);
    due("10", x.gravel(0, 10), BAD);
    due("-1", x.gravel(0, -1), BAD);
    due("all", x.status(4), 45);
  }

  private static void asks() {
    GravelHasTheLastWord x = fresh(11);
    due("RAIN", x.ask(0, 9), 0);
    due("RAIN", x.ask(0, 0), 9);
    due("EAR", x.ask(1, 99), 4);
    due("EAR", x.ask(1, 1), 99);
    due("EAR 0", x.ask(1, 0), BAD);
    due("EAR 100", x.ask(1, 100), BAD);
    due("RAIN 10", x.ask(0, 10), BAD);
    due("RAIN -1", x.ask(0, -1), BAD);
    due("what 2", x.ask(2, 1), BAD);
    due("what -1", x.ask(-1, 1), BAD);
    due("RAIN", x.status(2), 0);
    due("EAR", x.status(3), 1);
  }

  private static void newFeet() {
    GravelHasTheLastWord x = fresh(12);
    due("KIND 6", x.feet(6, 0, 1), BAD);
    due("KIND -1", x.feet(-1, 0, 1), BAD);
    due("a 10", x.feet(0, 10, 1), BAD);
    due("a -1", x.feet(0, -1, 1), BAD);
    due("LIKELY 0", x.feet(0, 0, 0), BAD);
    due("LIKELY 100", x.feet(0, 0, 100), BAD);
    for (int f = 0; f < 8; f++) {
      due("feet", x.feet(f % 6, 9, 99), f);
    }
    due("a ninth", x.feet(0, 0, 1), FULL);
    due("BAD ahead of FULL", x.feet(6, 0, 1), BAD);
    due("FEET", x.status(0), 8);
    due("FULL", x.status(16), 1);
  }

  private static void tape() {
    GravelHasTheLastWord x = fresh(13);
    due("feed 256", x.feed(256), BAD);
    due("feed -1", x.feed(-1), BAD);
    for (int i = 1; i <= 250; i++) {
      due("feed", x.feed(i % 256), i);
    }
    due("full", x.feed(0), FULL);
    due("BAD ahead of FULL", x.feed(256), BAD);
    promise = 14;
    due("size", x.status(6), 250);
    due("wipe", x.wipe(), 250);
    due("wipe", x.wipe(), 0);
    due("feed", x.feed(255), 1);
  }

  private static void drives() {
    GravelHasTheLastWord x = fresh(15);
    due("all there is", told(x, "side 3;gravel 8 0 ; gravel 7 9;plank 0;rake;foot5 9 99;rain 9;ear 99"), 8);
    due("side", x.status(1), 3);
    due("raked", x.cellOf(1, 0), 4);
    due("raked, 9 at most", x.cellOf(7, 0), 9);
    due("0 stays", x.cellOf(8, 0), 0);
    due("a plank", x.cellOf(0, 0), 0);
    due("FEET", x.feetOf(0, 0) * 10000 + x.feetOf(0, 1) * 1000 + x.feetOf(0, 2), 59099);
    due("RAIN", x.status(2), 9);
    due("EAR", x.status(3), 99);
    due("THE TAPE", x.status(6), 0);
    due("blanks", told(x, "  rake  ;rake "), 2);
    due("two digits", told(x, "rain 01;ear 09"), 2);
    due("EAR", x.status(3), 9);
    due("a tape stays no longer", x.drive(), -20);
    due("side and CELLS", told(x, "side 6;gravel 35 1;side 2"), 3);
  }

  private static void faults() {
    String[] texts = {
      "", "   ", ";", "rake;", "rake; ", "rake;;", "rake rake", "rak", "rakes", "Rake", "side", "side ", "side 1",
      "side 7", "side 004", "side x", "gravel 16 0", "gravel 0", "gravel 0;", "gravel 0 10", "side 2;gravel 4 0",
      "plank 16", "foot 6 0 1", "foot 0 10 1", "foot 0 0 0", "foot 0 0 100", "foot 0 0 1 1", "rain 10", "ear 0",
      "ear 100", "rake,", "rake\n", "rain -1", "12", "rain9side3", "side 3 gravel", "rake;ear 5;plank 99", "rakez", "rake`", "rake{"
    };
    int[] places = {
      0, 3, 0, 5, 6, 5, 5, 0, 0, 0, 4, 5, 5,
      5, 5, 5, 7, 8, 8, 9, 14,
      6, 5, 7, 9, 9, 11, 5, 4,
      4, 4, 4, 5, 0, 5, 7, 17, 0, 4, 4
    };
    for (int i = 0; i < texts.length; i++) {
      GravelHasTheLastWord x = fresh(15);
      x.gravel(3, 7);
      refused(x, "drive of '" + texts[i] + "'", told(x, texts[i]), BAD, 0, -20 - places[i]);
      due("nothing comes of it", x.status(4) * 1000 + x.status(3) * 100 + x.status(2) * 10 + x.status(0), 52400);
      due("THE TAPE", x.status(6), 0);
    }
  }

  private static void refused(GravelHasTheLastWord x, String what, int got, int why, int countBefore, int want) {
    due(what, got, want);
    due(what + ", counted", x.status(10 - why), countBefore + 1);
  }

  private static void noRoom() {
    GravelHasTheLastWord x = fresh(15);
    for (int f = 0; f < 7; f++) {
      x.feet(0, 0, 1);
    }
    due("no room for the word", told(x, "foot 0 0 1; foot 0 0 1"), -32);
    due("no room, whatever comes", told(x, "foot 0 0 1;foot 9"), -31);
    due("nothing comes of it", x.status(0), 7);
    due("the eighth", told(x, "foot 0 0 1"), 1);
    due("the ninth", told(x, "foot 0 0 1"), -20);
  }

  private static void ofFeetAndCells() {
    GravelHasTheLastWord x = fresh(16);
    x.feet(4, 9, 50);
    due("KIND", x.feetOf(0, 0), 4);
    due("a", x.feetOf(0, 1), 9);
    due("LIKELY", x.feetOf(0, 2), 50);
    due("what 3", x.feetOf(0, 3), BAD);
    due("what -1", x.feetOf(0, -1), BAD);
    due("FEET 1", x.feetOf(1, 0), BAD);
    due("FEET -1", x.feetOf(-1, 0), BAD);
    promise = 17;
    x.ask(0, 2);
    due("GRAVEL", x.cellOf(15, 0), 3);
    due("WET", x.cellOf(15, 1), 1);
    x.ask(0, 4);
    due("WET", x.cellOf(15, 1), 0);
    due("CELL 16", x.cellOf(16, 0), BAD);
    due("CELL -1", x.cellOf(-1, 0), BAD);
    due("what 2", x.cellOf(0, 2), BAD);
    due("what -1", x.cellOf(0, -1), BAD);
  }

  private static void crunches() {
    GravelHasTheLastWord x = fresh(18);
    for (int kind = 0; kind < 6; kind++) {
      x.feet(kind, 1, 1);
    }
    x.gravel(0, 4);
    x.gravel(1, 5);
    x.gravel(2, 0);
    x.gravel(3, 1);
    // By CELLS, then by KINDS, k 0 and k 1.
    int[][] want = {
      {5, 5, 10, 10, 2, 2, 10, 11, 0, 0, 5, 2}, {6, 6, 12, 12, 3, 3, 12, 13, 3, 3, 6, 3},
      {0, 0, 0, 0, 0, 0, 0, 0, 0, 0, 0, 0}, {2, 2, 4, 4, 0, 0, 4, 5, 0, 0, 2, 1}
    };
    for (int cell = 0; cell < 4; cell++) {
      for (int i = 0; i < 12; i++) {
        due("crunch(" + i / 2 + ", " + cell + ", " + i % 2 + ")", x.crunch(i / 2, cell, i % 2), want[cell][i]);
      }
    }
    due("k 5", x.crunch(5, 0, 5), 2);
    due("k 4", x.crunch(5, 0, 4), 5);
    x.ask(0, 1);
    due("RAIN", x.crunch(0, 0, 0), 4);
    due("no WET, a or not", x.crunch(0, 3, 0), 0);
    due("k 6", x.crunch(0, 0, 6), BAD);
    due("k -1", x.crunch(0, 0, -1), BAD);
    due("CELL 16", x.crunch(0, 16, 0), BAD);
    due("FEET 6", x.crunch(6, 0, 0), BAD);
  }

  private static void way(String what, java.util.function.IntUnaryOperator ask, int first, int... cells) {
    due(what + " all", ask.applyAsInt(NONE), first);
    for (int i = 0; i < cells.length; i++) {
      due(what + " " + i, ask.applyAsInt(i), cells[i]);
    }
    due(what + " behind", ask.applyAsInt(cells.length), BAD);
    due(what + " ahead", ask.applyAsInt(-2), BAD);
  }

  private static void waysByLoudness() {
    GravelHasTheLastWord q = drive(19);
    way("quietest", i -> q.quietest(0, i), 6, 1, 3, 7);
    due("FEET 4", q.quietest(4, 0), BAD);
    GravelHasTheLastWord s = drive(20);
    way("softest", i -> s.softest(0, i), 3, 1, 3, 7);
    s.gravel(3, 4);
    way("softest, of several the first", i -> s.softest(0, i), 4, 1, 3, 7);
    due("FEET -1", s.softest(-1, 0), BAD);
    GravelHasTheLastWord l = drive(29);
    way("loudest", i -> l.loudest(0, i), 20, 0, 4, 6);
    due("FEET 4", l.loudest(4, 0), BAD);
  }

  private static void unheards() {
    GravelHasTheLastWord x = drive(21);
    way("unheard", i -> x.unheard(0, i), 1, 1, 3, 7);
    x.ask(1, 5);
    way("unheard", i -> x.unheard(0, i), 3, 1, 3, 7);
    x.ask(1, 99);
    way("unheard, all", i -> x.unheard(0, i), 17, 0, 3, 6);
    x.ask(1, 3);
    due("none", x.unheard(0, NONE), 0);
    due("none", x.unheard(0, 0), STUCK);
    due("BAD ahead of STUCK", x.unheard(0, 3), BAD);
    due("FEET 4", x.unheard(4, NONE), BAD);
  }

  private static void rakings() {
    GravelHasTheLastWord x = drive(22);
    due("one", x.raked(0, NONE), 1);
    due("the first", x.raked(0, 0), 1);
    due("not so many", x.raked(0, 1), STUCK);
    x.ask(1, 5);
    x.gravel(0, 1);
    due("two", x.raked(0, NONE), 2);
    due("the first", x.raked(0, 0), 0);
    due("the second", x.raked(0, 1), 1);
    due("no third", x.raked(0, 2), STUCK);
    x.gravel(2, 1);
    due("two, elsewhere", x.raked(0, NONE), 2);
    due("the first", x.raked(0, 0), 3);
    due("the second", x.raked(0, 1), 5);
    x.gravel(4, 1);
    x.gravel(6, 1);
    due("two aren't enough", x.raked(0, NONE), NONE);
    due("not so many", x.raked(0, 0), STUCK);
    x.ask(1, 1);
    due("none needed", x.raked(0, NONE), 0);
    due("not so many", x.raked(0, 0), STUCK);
    x.ask(0, 9);
    due("the RAIN drowns all", x.raked(0, NONE), NONE);
    due("a third of two that aren't enough", x.raked(0, 2), STUCK);
    due("the most that i can be", x.raked(0, Integer.MAX_VALUE), STUCK);
    due("i -2", x.raked(0, -2), BAD);
    due("the least that i can be", x.raked(0, Integer.MIN_VALUE), BAD);
    due("BAD ahead of STUCK", x.raked(4, 2), BAD);
    due("FEET 4", x.raked(4, NONE), BAD);
  }

  private static void plankings() {
    GravelHasTheLastWord x = drive(39);
    due("none needed", x.planks(0, NONE), 0);
    due("not so many", x.planks(0, 0), STUCK);
    x.ask(1, 2);
    due("one", x.planks(0, NONE), 1);
    due("the first", x.planks(0, 0), 4);
    due("not so many", x.planks(0, 1), STUCK);
    x.gravel(8, 2);
    due("two", x.planks(0, NONE), 2);
    due("the first", x.planks(0, 0), 3);
    due("the second", x.planks(0, 1), 6);
    due("no third", x.planks(0, 2), STUCK);
    x.ask(1, 1);
    due("two aren't enough", x.planks(0, NONE), NONE);
    due("not so many", x.planks(0, 0), STUCK);
    due("a third of two that aren't enough", x.planks(0, 2), STUCK);
    due("the most that i can be", x.planks(0, Integer.MAX_VALUE), STUCK);
    due("i -2", x.planks(0, -2), BAD);
    due("the least that i can be", x.planks(0, Integer.MIN_VALUE), BAD);
    due("BAD ahead of STUCK", x.planks(-1, 2), BAD);
    due("FEET -1", x.planks(-1, NONE), BAD);
  }

  private static void whoIsIt() {
    GravelHasTheLastWord x = drive(23);
    int[][] rows = {{5, 2, 6}, {5, 0, 6}, {10, 4, 12, 99}, {5, 2, 7}};
    int[][] want = {{5, 0, 500, NONE}, {8, 3, 1000, 2}, {2, 1, 1000, 1}, {0, NONE, STUCK, NONE}};
    for (int i = 0; i < 4; i++) {
      fill(x, 0, rows[i]);
      for (int what = 0; what < 4; what++) {
        due("who " + i + " what " + what, x.who(0, 0, what), want[i][what]);
      }
    }
    x.feet(5, 0, 99);
    fill(x, 0, 5, 1, 6);
    due("SURE of LAME", x.who(0, 0, 3), 2);
    x.feet(0, 0, 11);
    fill(x, 0, 5, 2, 6);
    due("LIKELIEST", x.who(0, 0, 1), 5);
    due("SHARE", x.who(0, 0, 2), 354);
    x.row(0, 3, 3);
    x.set(0, 0, 4294967301L);
    x.set(0, 1, 2);
    x.set(0, 2, 6);
    due("a long is not cut", x.who(0, 0, 0), 0);
    whoRefused(x);
  }

  private static void whoRefused(GravelHasTheLastWord x) {
    x.show(1, 0);
    due("SHELF 8", x.who(8, 0, 0), BAD);
    due("column 3", x.who(1, 3, 0), BAD);
    due("column -1", x.who(1, -1, 0), BAD);
    due("what 4", x.who(1, 0, 4), BAD);
    due("what -1", x.who(1, 0, -1), BAD);
    due("FEET", x.who(1, 0, 0), OTHER);
    due("NOTHING", x.who(2, 0, 0), NOTHING);
    fill(x, 3, 5, 2);
    due("fewer elements", x.who(3, 0, 2), BAD);
  }

  private static void aparts() {
    GravelHasTheLastWord x = drive(24);
    due("apart", x.apart(0), 2);
    due("column 3", x.apart(3), BAD);
    due("column -1", x.apart(-1), BAD);
    GravelHasTheLastWord y = fresh(24);
    due("no FEET", y.apart(0), 0);
    y.feet(0, 0, 1);
    due("one alone", y.apart(0), 1);
    y.feet(0, 0, 1);
    y.feet(0, 0, 1);
    due("three alike", y.apart(3), 0);
    promise = 25;
    GravelHasTheLastWord z = fresh(25);
    due("TURN of none", z.telling(1), 0);
    z.feet(0, 0, 1);
    z.feet(5, 0, 1);
    z.gravel(4, 0);
    z.gravel(12, 0);
    due("not there", z.apart(0), 0);
    due("TELLING", z.telling(0), 1);
    due("TURN", z.telling(1), 0);
    due("what 2", z.telling(2), BAD);
    due("what -1", z.telling(-1), BAD);
    GravelHasTheLastWord t = fresh(25);
    t.feet(2, 9, 1);
    t.feet(4, 9, 1);
    due("CAT and SOFT", t.telling(1), 0);
    for (int cell = 0; cell < 16; cell++) {
      t.gravel(cell, 9);
    }
    due("TURN", t.telling(1), 5);
    t.ask(0, 9);
    due("TURN, whatever the RAIN", t.telling(1), 5);
    t.feet(4, 9, 1);
    due("TURN", t.telling(1), NONE);
  }

  private static void soundsAs() {
    GravelHasTheLastWord x = drive(26);
    way("as", i -> x.as(0, 2, 0, i), 1, 0, 3, 6);
    x.gravel(1, 5);
    way("as", i -> x.as(0, 2, 0, i), 2, 0, 3, 6);
    due("none", x.as(0, 1, 0, NONE), 0);
    due("none", x.as(0, 1, 0, 0), STUCK);
    due("the same FEET", x.as(0, 0, 0, NONE), BAD);
    due("FEET 4", x.as(4, 0, 0, NONE), BAD);
    due("FEET 4", x.as(0, 4, 0, NONE), BAD);
    due("column 3", x.as(0, 1, 3, NONE), BAD);
    due("BAD ahead of STUCK", x.as(0, 1, 0, 3), BAD);
  }

  private static void twoAtOnce() {
    GravelHasTheLastWord x = drive(27);
    fill(x, 0, 15, 10, 8);
    due("pairs", x.two(0, 0, 2, 0), 2);
    due("the first", x.two(0, 0, 2, 1), 1);
    due("the other way", x.two(0, 2, 0, 0), 2);
    due("the first", x.two(0, 2, 0, 1), 10);
    fill(x, 0, 10, 6, 7);
    due("not with themselves", x.two(0, 0, 2, 0), 2);
    due("the first", x.two(0, 0, 2, 1), 2);
    fill(x, 0, 1, 1, 1);
    due("none", x.two(0, 0, 2, 0), 0);
    due("none", x.two(0, 0, 2, 1), NONE);
    x.show(1, 0);
    fill(x, 3, 1, 1);
    due("SHELF", x.two(8, 0, 2, 0), BAD);
    due("column", x.two(1, 3, 2, 0), BAD);
    due("column", x.two(1, 0, 3, 0), BAD);
    due("the same COLUMN", x.two(1, 2, 2, 0), BAD);
    due("what", x.two(1, 0, 2, 2), BAD);
    due("FEET", x.two(1, 0, 2, 0), OTHER);
    due("NOTHING", x.two(2, 0, 2, 0), NOTHING);
    due("fewer elements", x.two(3, 0, 2, 0), BAD);
  }

  private static void meanings() {
    GravelHasTheLastWord x = drive(28);
    fill(x, 0, 5, 2, 6, 1);
    due("KINDS, a 0", x.meant(0, 0, 0, 0), 1);
    due("KINDS, a 3", x.meant(0, 2, 0, 0), 4);
    due("a of a FOOT", x.meant(0, 0, 0, 1), 0);
    due("a of SOFT", x.meant(0, 3, 0, 1), NONE);
    due("a of SOFT", x.meant(0, 2, 0, 1), 3);
    fill(x, 0, 1, 1, 1);
    due("none", x.meant(0, 0, 0, 0), 0);
    due("none", x.meant(0, 0, 0, 1), NONE);
    x.sweep(0);
    fill(x, 0, 0, 0, 0);
    due("all", x.meant(0, 3, 0, 0), 63);
    due("a", x.meant(0, 2, 0, 1), 0);
    x.show(1, 0);
    fill(x, 3, 1, 1);
    due("SHELF", x.meant(-1, 0, 0, 0), BAD);
    due("FEET 4", x.meant(1, 4, 0, 0), BAD);
    due("column", x.meant(1, 0, 3, 0), BAD);
    due("what", x.meant(1, 0, 0, 2), BAD);
    due("FEET", x.meant(1, 0, 0, 0), OTHER);
    due("NOTHING", x.meant(2, 0, 0, 0), NOTHING);
    due("fewer elements", x.meant(3, 0, 0, 0), BAD);
  }

  private static void wayCounts() {
    GravelHasTheLastWord x = fresh(30);
    int[] want = {4, 17, 68, 259, 950};
    for (int n = 2; n <= 6; n++) {
      x.side(n);
      due("ways of " + n, x.ways(), want[n - 2]);
    }
    promise = 31;
    x.side(3);
    int[] over = {5, 7, 5, 4, 9, 4, 5, 7, 5};
    for (int cell = 0; cell < 9; cell++) {
      due("through " + cell, x.through(cell), over[cell]);
    }
    due("CELL 9", x.through(9), BAD);
    due("CELL -1", x.through(-1), BAD);
    GravelHasTheLastWord d = drive(32);
    due("dry", d.dry(0), 0);
    d.ask(1, 2);
    due("dry", d.dry(0), 2);
    d.ask(1, 1);
    due("dry", d.dry(0), 3);
    d.ask(0, 5);
    due("dry, whatever the RAIN", d.dry(0), 3);
    due("FEET 4", d.dry(4), BAD);
    GravelHasTheLastWord m = drive(33);
    due("mean", m.mean(0), 12823);
    due("mean", m.mean(1), 25647);
    due("FEET -1", m.mean(-1), BAD);
  }

  private static void hearings() {
    GravelHasTheLastWord x = drive(34);
    due("heardOn 0", x.heardOn(0), 15);
    due("heardOn 3", x.heardOn(3), 2);
    due("heardOn 5", x.heardOn(5), 7);
    due("heardOn 1", x.heardOn(1), 0);
    due("CELL 9", x.heardOn(9), BAD);
    due("CELL -1", x.heardOn(-1), BAD);
    promise = 36;
    due("heardBy 0", x.heardBy(0), 5);
    due("heardBy 1", x.heardBy(1), 7);
    due("heardBy 3", x.heardBy(3), 4);
    due("FEET 4", x.heardBy(4), BAD);
    promise = 35;
    due("silent", x.silent(), 0);
    x.ask(0, 1);
    due("silent", x.silent(), 2);
    x.gravel(0, 0);
    due("silent", x.silent(), 3);
    x.ask(0, 9);
    due("silent", x.silent(), 9);
    GravelHasTheLastWord y = fresh(34);
    y.feet(5, 1, 1);
    due("LAME on an even ROW", y.heardOn(0), 1);
    due("LAME on an odd ROW", y.heardOn(4), 0);
    due("heardBy", y.heardBy(0), 8);
  }

  private static void gaps() {
    GravelHasTheLastWord x = drive(37);
    due("FOOT and CAT", x.gap(0, 3, 0), 1);
    due("FOOT and SOFT", x.gap(0, 2, 0), NONE);
    due("FOOT and BOOT", x.gap(0, 1, 0), 0);
    due("the same", x.gap(1, 1, 0), BAD);
    due("FEET 4", x.gap(0, 4, 0), BAD);
    due("FEET -1", x.gap(-1, 0, 0), BAD);
    due("column 3", x.gap(0, 1, 3), BAD);
    promise = 38;
    due("confused", x.confused(0), 4);
    due("confused", x.confused(2), 1);
    due("confused", x.confused(1), 0);
    x.gravel(3, 5);
    due("on one COLUMN", x.confused(0), 12);
    due("FEET 4", x.confused(4), BAD);
  }

  private static void choices() {
    GravelHasTheLastWord x = drive(40);
    due("column", x.column(0), 2);
    x.gravel(2, 8);
    due("of several the first", x.column(0), 0);
    due("FEET 4", x.column(4), BAD);
    promise = 41;
    due("odds", x.odds(0), 222);
    due("odds", x.odds(1), 444);
    due("FEET 4", x.odds(4), BAD);
    promise = 42;
    due("worst", x.worst(0), 4);
    x.gravel(2, 9);
    due("of several the first", x.worst(0), 2);
    due("FEET -1", x.worst(-1), BAD);
    GravelHasTheLastWord r = drive(43);
    int[] order = {3, 0, 2, 1};
    for (int i = 0; i < 4; i++) {
      due("ranked " + i, r.ranked(i), order[i]);
    }
    due("ranked 4", r.ranked(4), BAD);
    due("ranked -1", r.ranked(-1), BAD);
    GravelHasTheLastWord d = drive(44);
    due("duel", d.duel(0, 0), 1);
    due("duel", d.duel(0, 1), 10);
    due("nothing is changed", d.cellOf(1, 0), 1);
    due("what 2", d.duel(0, 2), BAD);
    due("FEET 4", d.duel(4, 0), BAD);
  }

  private static void judged() {
    GravelHasTheLastWord x = drive(45);
    int[][] rows = {
      {1, 3, 7}, {1, 3, 8}, {0, 5, 8}, {3, 3, 7}, {-1, 3, 7}, {1, 3, 9}, {1, 3, 7, 10}, {1, 4, -1}, {2, 5, 8}, {9, 4, 7}
    };
    int[] want = {NONE, 2, 1, 0, 0, 2, 3, 2, NONE, 0};
    for (int i = 0; i < rows.length; i++) {
      fill(x, 0, rows[i]);
      due("judge " + i, x.judge(0, rows[i].length), want[i]);
    }
    fill(x, 0, 1, 3, 7, 10);
    due("less of it", x.judge(0, 3), NONE);
    due("too short", x.judge(0, 2), 2);
    due("none at all", x.judge(0, 0), 0);
    due("n 5", x.judge(0, 5), BAD);
    due("n 41", x.judge(1, 41), BAD);
    due("n -1", x.judge(1, -1), BAD);
    due("SHELF", x.judge(8, 0), BAD);
    due("NOTHING", x.judge(1, 40), NOTHING);
    x.show(1, 0);
    due("FEET", x.judge(1, 40), OTHER);
    x.row(0, 3, 3);
    x.set(0, 0, 4294967297L);
    due("a long is not cut", x.judge(0, 3), 0);
    x.set(0, 0, Long.MIN_VALUE);
    due("nor wraps", x.judge(0, 3), 0);
    x.set(0, 0, 1);
    x.set(0, 1, Long.MAX_VALUE);
    due("nor wraps", x.judge(0, 3), 1);
  }

  private static void loudOrDone() {
    GravelHasTheLastWord x = drive(46);
    fill(x, 0, 1, 3, 7, 0);
    due("all", x.loud(0, 3, 0, 0), 6);
    due("none heard", x.loud(0, 3, 0, 1), NONE);
    x.ask(1, 3);
    due("heard", x.loud(0, 3, 0, 1), 2);
    due("BOOT", x.loud(0, 3, 1, 0), 12);
    due("BOOT heard", x.loud(0, 3, 1, 1), 1);
    due("too long", x.loud(0, 4, 0, 0), STUCK);
    due("too short", x.loud(0, 2, 0, 0), STUCK);
    due("fewer elements", x.loud(0, 5, 0, 0), BAD);
    x.show(1, 0);
    due("FEET", x.loud(1, 3, 0, 0), OTHER);
    due("NOTHING", x.loud(2, 3, 0, 0), NOTHING);
    due("SHELF", x.loud(-1, 3, 0, 0), BAD);
    due("n", x.loud(1, 41, 0, 0), BAD);
    due("FEET 4", x.loud(1, 3, 4, 0), BAD);
    due("what", x.loud(1, 3, 0, 2), BAD);
    promise = 47;
    due("FEET", x.done(1, 3, 0), OTHER);
    due("NOTHING", x.done(2, 3, 0), NOTHING);
    due("SHELF", x.done(8, 3, 0), BAD);
    due("n", x.done(1, -1, 0), BAD);
    due("FEET 4", x.done(1, 3, 4), BAD);
    due("fewer elements", x.done(0, 5, 0), BAD);
    due("WRONG", x.done(0, 2, 0), STUCK);
    due("all GRAVEL", x.status(4), 36);
    due("done", x.done(0, 3, 0), 6);
    due("all GRAVEL", x.status(4), 33);
    due("done", x.done(0, 3, 0), 3);
    due("done", x.done(0, 3, 0), 1);
    due("0 at least", x.cellOf(1, 0), 0);
    due("done", x.done(0, 3, 0), 0);
    due("all GRAVEL", x.status(4), 30);
  }

  private static void inTruth() {
    GravelHasTheLastWord x = drive(48);
    x.gravel(1, 0);
    due("rake", x.rake(), 42);
    due("9 at most", x.cellOf(4, 0), 9);
    due("0 stays", x.cellOf(1, 0), 0);
    promise = 49;
    due("sweep", x.sweep(1), 13);
    due("sweep", x.sweep(1), 0);
    due("all GRAVEL", x.status(4), 29);
    due("column 3", x.sweep(3), BAD);
    due("column -1", x.sweep(-1), BAD);
    promise = 51;
    due("seed", x.seed(LEAST), 1);
    due("seed", x.seed(7), LEAST);
    due("SEED", x.status(7), 7);
  }

  private static void draws() {
    GravelHasTheLastWord x = fresh(50);
    due("no FEET", x.arrivals(1), STUCK);
    due("BAD ahead of STUCK", x.arrivals(0), BAD);
    due("61", x.arrivals(61), BAD);
    due("no draw", x.status(7), 1);
    x.feet(0, 0, 1);
    due("alone", x.arrivals(1), 1);
    due("two draws", x.status(7), -1770082073);
    due("alone", x.arrivals(60), 60);
    x.seed(1);
    x.feet(0, 0, 1);
    due("two alike, the first comes", x.arrivals(1), 1);
    x.seed(1);
    due("then the second", x.arrivals(2), 1);
    due("the GRAVEL stays", x.status(4), 48);
  }

  private static void images() {
    GravelHasTheLastWord x = drive(53);
    due("nothing was kept", x.back(), STUCK);
    promise = 52;
    due("image", x.image(), 1);
    promise = 53;
    x.feet(0, 0, 1);
    x.show(0, 4);
    x.show(1, 3);
    x.row(2, 0, 1);
    x.set(2, 0, 9);
    x.feed(65);
    x.side(6);
    x.ask(0, 5);
    x.ask(1, 50);
    x.seed(99);
    due("back", x.back(), 1);
    int[] want = {4, 3, 0, 4, 36, 45, 1, 1, 2};
    for (int what = 0; what < want.length; what++) {
      due("status(" + what + ")", x.status(what), want[what]);
    }
    due("FEET that are no more", x.holds(0), NONE);
    due("FEET that are", x.holds(1), 13);
    due("a ROW", x.element(2, 0), 9);
    due("REFUSALS", x.status(15), 1);
    x.gravel(0, 9);
    due("back again", x.back(), 1);
    due("GRAVEL", x.cellOf(0, 0), 5);
  }

  private static void statuses() {
    GravelHasTheLastWord x = drive(54);
    x.feed(32);
    x.row(3, 0, 0);
    x.show(4, 2);
    int[] want = {4, 3, 0, 4, 36, 45, 1, 1, 2, NONE, NONE, NONE, 0, 0, 0, 0, 0, NONE};
    for (int what = 0; what < want.length; what++) {
      due("status(" + what + ")", x.status(what), want[what]);
    }
    int[] odd = {-1, LEAST, MOST, 17};
    for (int what : odd) {
      due("status(" + what + ")", x.status(what), NONE);
    }
    refused(x, "BAD", x.side(9), BAD, 0);
    refused(x, "OTHER", x.set(4, 0, 0), OTHER, 0);
    refused(x, "NOTHING", x.set(5, 0, 0), NOTHING, 0);
    refused(x, "STUCK", x.back(), STUCK, 0);
    for (int f = 4; f < 8; f++) {
      x.feet(0, 0, 1);
    }
    refused(x, "FULL", x.feet(0, 0, 1), FULL, 0);
    x.ask(0, 9);
    due("NONE", x.raked(0, NONE), NONE);
    due("NONE", x.telling(1), NONE);
    due("NONE", x.gap(0, 2, 0), NONE);
    due("NONE isn't refused", x.status(12) + x.status(15), 2);
  }

  public static void main(String[] args) {
    newObject();
    rows();
    sets();
    copies();
    elements();
    holdings();
    shows();
    sayings();
    sides();
    gravels();
    asks();
    newFeet();
    tape();
    drives();
    faults();
    noRoom();
    ofFeetAndCells();
    crunches();
    waysByLoudness();
    unheards();
    rakings();
    plankings();
    whoIsIt();
    aparts();
    soundsAs();
    twoAtOnce();
    meanings();
    wayCounts();
    hearings();
    gaps();
    choices();
    judged();
    loudOrDone();
    inTruth();
    draws();
    images();
    statuses();
    System.out.println(wrong == 0 ? "all promises hold" : wrong + " answers are not as due");
    if (wrong != 0) System.exit(1);
  }
}
