import java.lang.reflect.Method;
import java.util.List;
import java.util.function.ToLongFunction;

/** What a refused call leaves as it was, what a call that only asks leaves, and 512 calls of one object. */
public final class StateEdges extends Edges {
  private static final String NOTHING_CHANGES = "nothing changes but how many there were";
  private static final String NOTHING_IS_CHANGED = "3. WHAT COMES OF IT (nothing is changed)";

  public static void main(String[] args) {
    run(StateEdges.class);
  }

  private static void bad(String what, ToLongFunction<GravelHasTheLastWord> call) {
    leaves(what, Edges::lived, call, BAD);
  }

  private static void other(String what, ToLongFunction<GravelHasTheLastWord> call) {
    leaves(what, Edges::lived, call, OTHER);
  }

  private static void nothing(String what, ToLongFunction<GravelHasTheLastWord> call) {
    leaves(what, Edges::lived, call, NOTHING);
  }

  private static void stuck(String what, ToLongFunction<GravelHasTheLastWord> call) {
    leaves(what, Edges::lived, call, STUCK);
  }

  private static GravelHasTheLastWord nobody() {
    return fill(drive("515 294 631"), 0, 2, 6, 4, 7);
  }

  // ---- SHELVES

  @Of(promise = 2, says = NOTHING_CHANGES)
  static void p02_refused() {
    bad("row, SHELF", x -> x.row(8, 0, 1));
    bad("row, SORT", x -> x.row(0, 5, 1));
    bad("row, n", x -> x.row(0, 0, 41));
    bad("row, n over FEET", x -> x.row(2, 0, -1));
    bad("row, SORT over an empty ROW", x -> x.row(4, -1, 1));
  }

  @Of(promise = 3, says = NOTHING_CHANGES)
  static void p03_refused() {
    bad("set, SHELF", x -> x.set(-1, 0, 5));
    other("set, FEET", x -> x.set(2, 0, 5));
    nothing("set, NOTHING", x -> x.set(6, 0, 5));
    bad("set, i", x -> x.set(0, 3, 5));
    bad("set, i -1", x -> x.set(1, -1, 5));
    bad("set, an empty ROW", x -> x.set(4, 0, 5));
  }

  @Of(promise = 4, says = NOTHING_CHANGES)
  static void p04_refused() {
    bad("copy, SHELF", x -> x.copy(8, 0, 0, 0, 1));
    bad("copy, the other SHELF", x -> x.copy(0, -1, 0, 0, 1));
    other("copy, FEET", x -> x.copy(0, 2, 0, 0, 1));
    other("copy, two SORTS", x -> x.copy(0, 1, 0, 0, 1));
    nothing("copy, NOTHING", x -> x.copy(0, 6, 0, 0, 1));
    bad("copy, i", x -> x.copy(0, 0, 3, 0, 1));
    bad("copy, j", x -> x.copy(0, 0, 0, 3, 1));
    bad("copy, n", x -> x.copy(0, 0, 0, 1, 3));
    bad("copy, n -1", x -> x.copy(0, 0, 0, 1, -1));
  }

  @Of(promise = 7, says = NOTHING_CHANGES)
  static void p07_refused() {
    bad("show, FEET", x -> x.show(0, 3));
    bad("show, FEET -2", x -> x.show(2, -2));
    bad("show, SHELF", x -> x.show(8, 0));
    bad("show, SHELF for NOTHING", x -> x.show(-1, NONE));
  }

  @Of(promise = 8, says = NOTHING_CHANGES)
  static void p08_refused() {
    bad("says, SHELF", x -> x.says(8, 0));
    bad("says, KIND", x -> x.says(2, 6));
    other("says, a ROW", x -> x.says(0, 0));
    other("says, no such KIND", x -> x.says(2, BOOT));
    nothing("says, NOTHING", x -> x.says(6, 0));
  }

  // ---- the drive

  @Of(promise = 9, says = NOTHING_CHANGES)
  static void p09_refused() {
    bad("side 1", x -> x.side(1));
    bad("side 7", x -> x.side(7));
  }

  @Of(promise = 10, says = NOTHING_CHANGES)
  static void p10_refused() {
    bad("gravel, CELL", x -> x.gravel(9, 1));
    bad("gravel, CELL -1", x -> x.gravel(-1, 1));
    bad("gravel, v", x -> x.gravel(0, 10));
    bad("gravel, v -1", x -> x.gravel(8, -1));
  }

  @Of(promise = 11, says = NOTHING_CHANGES)
  static void p11_refused() {
    bad("ask, RAIN", x -> x.ask(0, 10));
    bad("ask, RAIN -1", x -> x.ask(0, -1));
    bad("ask, EAR 0", x -> x.ask(1, 0));
    bad("ask, EAR 100", x -> x.ask(1, 100));
    bad("ask, what", x -> x.ask(2, 1));
    bad("ask, what -1", x -> x.ask(-1, 1));
  }

  @Of(promise = 12, says = NOTHING_CHANGES)
  static void p12_refused() {
    bad("feet, KIND", x -> x.feet(6, 0, 1));
    bad("feet, a", x -> x.feet(0, 10, 1));
    bad("feet, LIKELY", x -> x.feet(0, 0, 0));
    leaves("feet, FULL", Edges::filled, x -> x.feet(0, 0, 1), FULL);
    leaves("feet, BAD and FULL", Edges::filled, x -> x.feet(0, 0, 100), BAD);
  }

  @Of(promise = 13, says = NOTHING_CHANGES)
  static void p13_refused() {
    bad("feed 256", x -> x.feed(256));
    bad("feed -1", x -> x.feed(-1));
    leaves("feed, FULL", Edges::filled, x -> x.feed(';'), FULL);
    leaves("feed, BAD and FULL", Edges::filled, x -> x.feed(256), BAD);
  }

  @Of(promise = 15, says = "All comes to what there is, or nothing.")
  static void p15_refused() {
    String[] texts = {"", "rake;side 4;rain 9;ear 9;foot 0 0 1;x", "gravel 0 0;plank 1;foot 5 9 99;", "side 2;gravel 4 0"};
    for (String text : texts) {
      GravelHasTheLastWord one = lived();
      one.wipe();
      due("a FAULT", told(one, text) <= -20 ? 1 : 0, 1);
      GravelHasTheLastWord other = lived();
      other.wipe();
      List<Long> want = shown(other);
      want.set(12, want.get(12) + 1);
      due("all else of '" + text + "'", shown(one).equals(want) ? 1 : 0, 1);
    }
  }

  // ---- what comes of it, and what is done in truth

  @Of(promise = 16, says = NOTHING_CHANGES)
  static void p16_refused() {
    bad("feetOf, FEET", x -> x.feetOf(3, 0));
    bad("feetOf, what", x -> x.feetOf(0, 3));
  }

  @Of(promise = 17, says = NOTHING_CHANGES)
  static void p17_refused() {
    bad("cellOf, CELL", x -> x.cellOf(9, 0));
    bad("cellOf, what", x -> x.cellOf(0, 2));
  }

  @Of(promise = 18, says = NOTHING_CHANGES)
  static void p18_refused() {
    bad("crunch, FEET", x -> x.crunch(3, 0, 0));
    bad("crunch, CELL", x -> x.crunch(0, 9, 0));
    bad("crunch, k", x -> x.crunch(0, 0, 6));
  }

  @Of(promise = 19, says = NOTHING_CHANGES)
  static void p19_refused() {
    bad("quietest, FEET", x -> x.quietest(3, 0));
    bad("quietest, i", x -> x.quietest(0, 3));
  }

  @Of(promise = 20, says = NOTHING_CHANGES)
  static void p20_refused() {
    bad("softest, FEET", x -> x.softest(-1, 0));
    bad("softest, i", x -> x.softest(0, -2));
  }

  @Of(promise = 21, says = NOTHING_CHANGES)
  static void p21_refused() {
    bad("unheard, FEET", x -> x.unheard(3, 0));
    bad("unheard, i", x -> x.unheard(0, 3));
    leaves("unheard, none", () -> ears(lived(), 0, 1), x -> x.unheard(2, 0), STUCK);
  }

  @Of(promise = 22, says = NOTHING_CHANGES)
  static void p22_refused() {
    bad("raked, FEET", x -> x.raked(3, 0));
    bad("raked, i", x -> x.raked(0, -2));
    stuck("raked, not so many", x -> x.raked(0, 2));
  }

  @Of(promise = 23, says = NOTHING_CHANGES)
  static void p23_refused() {
    bad("who, COLUMN", x -> x.who(0, 3, 0));
    other("who, FEET", x -> x.who(2, 0, 0));
    nothing("who, NOTHING", x -> x.who(6, 0, 0));
    bad("who, fewer elements", x -> x.who(5, 0, 2));
    stuck("who, none fits", x -> x.who(0, 0, 2));
  }

  @Of(promise = 24, says = NOTHING_CHANGES)
  static void p24_refused() {
    bad("apart", x -> x.apart(3));
  }

  @Of(promise = 25, says = NOTHING_CHANGES)
  static void p25_refused() {
    bad("telling", x -> x.telling(2));
  }

  @Of(promise = 26, says = NOTHING_CHANGES)
  static void p26_refused() {
    bad("as, the same FEET", x -> x.as(0, 0, 0, 0));
    stuck("as, none", x -> x.as(1, 2, 0, 0));
  }

  @Of(promise = 27, says = NOTHING_CHANGES)
  static void p27_refused() {
    bad("two, the same COLUMN", x -> x.two(0, 1, 1, 0));
    other("two, FEET", x -> x.two(2, 0, 1, 0));
    nothing("two, NOTHING", x -> x.two(6, 0, 1, 0));
    bad("two, fewer elements", x -> x.two(5, 0, 1, 0));
  }

  @Of(promise = 28, says = NOTHING_CHANGES)
  static void p28_refused() {
    bad("meant, what", x -> x.meant(0, 0, 0, 2));
    other("meant, FEET", x -> x.meant(2, 0, 0, 0));
    nothing("meant, NOTHING", x -> x.meant(6, 0, 0, 0));
    bad("meant, fewer elements", x -> x.meant(5, 0, 0, 0));
  }

  @Of(promise = 29, says = NOTHING_CHANGES)
  static void p29_refused() {
    bad("loudest, i", x -> x.loudest(0, 3));
  }

  @Of(promise = 31, says = NOTHING_CHANGES)
  static void p31_refused() {
    bad("through", x -> x.through(9));
  }

  @Of(promise = 32, says = NOTHING_CHANGES)
  static void p32_refused() {
    bad("dry", x -> x.dry(3));
  }

  @Of(promise = 33, says = NOTHING_CHANGES)
  static void p33_refused() {
    bad("mean", x -> x.mean(3));
  }

  @Of(promise = 34, says = NOTHING_CHANGES)
  static void p34_refused() {
    bad("heardOn", x -> x.heardOn(9));
  }

  @Of(promise = 36, says = NOTHING_CHANGES)
  static void p36_refused() {
    bad("heardBy", x -> x.heardBy(3));
  }

  @Of(promise = 37, says = NOTHING_CHANGES)
  static void p37_refused() {
    bad("gap, the same FEET", x -> x.gap(1, 1, 0));
  }

  @Of(promise = 38, says = NOTHING_CHANGES)
  static void p38_refused() {
    bad("confused", x -> x.confused(3));
  }

  @Of(promise = 39, says = NOTHING_CHANGES)
  static void p39_refused() {
    bad("planks, i", x -> x.planks(0, -2));
    stuck("planks, not so many", x -> x.planks(0, 2));
  }

  @Of(promise = 40, says = NOTHING_CHANGES)
  static void p40_refused() {
    bad("column", x -> x.column(3));
  }

  @Of(promise = 41, says = NOTHING_CHANGES)
  static void p41_refused() {
    bad("odds", x -> x.odds(3));
  }

  @Of(promise = 42, says = NOTHING_CHANGES)
  static void p42_refused() {
    bad("worst", x -> x.worst(3));
  }

  @Of(promise = 43, says = NOTHING_CHANGES)
  static void p43_refused() {
    bad("ranked", x -> x.ranked(3));
  }

  @Of(promise = 44, says = NOTHING_CHANGES)
  static void p44_refused() {
    bad("duel, FEET", x -> x.duel(3, 0));
    bad("duel, what", x -> x.duel(0, 2));
  }

  @Of(promise = 45, says = NOTHING_CHANGES)
  static void p45_refused() {
    bad("judge, n", x -> x.judge(0, 41));
    other("judge, FEET", x -> x.judge(2, 3));
    nothing("judge, NOTHING", x -> x.judge(6, 3));
    bad("judge, fewer elements", x -> x.judge(5, 3));
  }

  @Of(promise = 46, says = NOTHING_CHANGES)
  static void p46_refused() {
    bad("loud, what", x -> x.loud(1, 3, 0, 2));
    other("loud, FEET", x -> x.loud(2, 3, 0, 0));
    nothing("loud, NOTHING", x -> x.loud(6, 3, 0, 0));
    bad("loud, fewer elements", x -> x.loud(5, 3, 0, 0));
    stuck("loud, WRONG", x -> x.loud(0, 3, 0, 0));
  }

  @Of(promise = 47, says = NOTHING_CHANGES)
  static void p47_refused() {
    bad("done, FEET", x -> x.done(1, 3, 3));
    bad("done, n", x -> x.done(1, -1, 0));
    other("done, FEET on the SHELF", x -> x.done(2, 3, 0));
    nothing("done, NOTHING", x -> x.done(6, 3, 0));
    bad("done, fewer elements", x -> x.done(5, 3, 0));
    stuck("done, WRONG", x -> x.done(0, 3, 0));
    stuck("done, WRONG at the end", x -> x.done(1, 4, 0));
    stuck("done, too short", x -> x.done(1, 2, 0));
  }

  @Of(promise = 49, says = NOTHING_CHANGES)
  static void p49_refused() {
    bad("sweep", x -> x.sweep(3));
    bad("sweep -1", x -> x.sweep(-1));
  }

  @Of(promise = 50, says = NOTHING_CHANGES)
  static void p50_refused() {
    bad("arrivals 0", x -> x.arrivals(0));
    bad("arrivals 61", x -> x.arrivals(61));
    leaves("arrivals, no FEET", StateEdges::nobody, x -> x.arrivals(60), STUCK);
  }

  @Of(promise = 53, says = NOTHING_CHANGES)
  static void p53_refused() {
    leaves("back, nothing was kept", StateEdges::nobody, x -> x.back(), STUCK);
  }

  // ---- calls that only ask

  @Of(promise = 5, says = "(nothing is refused)")
  static void p05_onlyAsks() {
    changesNothing("element", x -> x.element(0, 2));
    changesNothing("element, none", x -> x.element(8, -1));
  }

  @Of(promise = 6, says = "Nothing is promised beyond the answers and state changes described above")
  static void p06_onlyAsks() {
    changesNothing("holds", x -> x.holds(8));
  }

  @Of(promise = 8, says = "Nothing is promised beyond the answers and state changes described above")
  static void p08_onlyAsks() {
    changesNothing("says", x -> x.says(2, SOFT));
  }

  @Of(promise = 16, says = "Nothing is promised beyond the answers and state changes described above")
  static void p16_onlyAsks() {
    changesNothing("feetOf", x -> x.feetOf(0, 2));
  }

  @Of(promise = 17, says = "Nothing is promised beyond the answers and state changes described above")
  static void p17_onlyAsks() {
    changesNothing("cellOf", x -> x.cellOf(8, 1));
  }

  @Of(promise = 18, says = "Nothing is promised beyond the answers and state changes described above")
  static void p18_onlyAsks() {
    changesNothing("crunch", x -> x.crunch(2, 8, 5));
  }

  @Of(promise = 19, says = NOTHING_IS_CHANGED)
  static void p19_onlyAsks() {
    changesNothing("quietest", x -> x.quietest(0, 0));
  }

  @Of(promise = 20, says = NOTHING_IS_CHANGED)
  static void p20_onlyAsks() {
    changesNothing("softest", x -> x.softest(0, NONE));
  }

  @Of(promise = 21, says = NOTHING_IS_CHANGED)
  static void p21_onlyAsks() {
    changesNothing("unheard", x -> x.unheard(0, NONE));
  }

  @Of(promise = 22, says = NOTHING_IS_CHANGED)
  static void p22_onlyAsks() {
    changesNothing("raked", x -> x.raked(0, NONE));
    changesNothing("raked, the first", x -> x.raked(2, 0));
  }

  @Of(promise = 23, says = NOTHING_IS_CHANGED)
  static void p23_onlyAsks() {
    changesNothing("who", x -> x.who(0, 0, 1));
    changesNothing("SURE", x -> x.who(0, 0, 3));
  }

  @Of(promise = 24, says = NOTHING_IS_CHANGED)
  static void p24_onlyAsks() {
    changesNothing("apart", x -> x.apart(0));
  }

  @Of(promise = 25, says = NOTHING_IS_CHANGED)
  static void p25_onlyAsks() {
    changesNothing("TELLING", x -> x.telling(0));
    changesNothing("TURN", x -> x.telling(1));
  }

  @Of(promise = 26, says = NOTHING_IS_CHANGED)
  static void p26_onlyAsks() {
    changesNothing("as", x -> x.as(0, 1, 0, NONE));
  }

  @Of(promise = 27, says = NOTHING_IS_CHANGED)
  static void p27_onlyAsks() {
    changesNothing("two", x -> x.two(0, 0, 1, 1));
  }

  @Of(promise = 28, says = NOTHING_IS_CHANGED)
  static void p28_onlyAsks() {
    changesNothing("meant", x -> x.meant(0, 0, 0, 1));
  }

  @Of(promise = 29, says = NOTHING_IS_CHANGED)
  static void p29_onlyAsks() {
    changesNothing("loudest", x -> x.loudest(0, 2));
  }

  @Of(promise = 30, says = NOTHING_IS_CHANGED)
  static void p30_onlyAsks() {
    changesNothing("ways", x -> x.ways());
  }

  @Of(promise = 31, says = NOTHING_IS_CHANGED)
  static void p31_onlyAsks() {
    changesNothing("through", x -> x.through(8));
  }

  @Of(promise = 32, says = NOTHING_IS_CHANGED)
  static void p32_onlyAsks() {
    changesNothing("dry", x -> x.dry(2));
  }

  @Of(promise = 33, says = NOTHING_IS_CHANGED)
  static void p33_onlyAsks() {
    changesNothing("mean", x -> x.mean(0));
  }

  @Of(promise = 34, says = NOTHING_IS_CHANGED)
  static void p34_onlyAsks() {
    changesNothing("heardOn", x -> x.heardOn(8));
  }

  @Of(promise = 35, says = NOTHING_IS_CHANGED)
  static void p35_onlyAsks() {
    changesNothing("silent", x -> x.silent());
  }

  @Of(promise = 36, says = NOTHING_IS_CHANGED)
  static void p36_onlyAsks() {
    changesNothing("heardBy", x -> x.heardBy(0));
  }

  @Of(promise = 37, says = NOTHING_IS_CHANGED)
  static void p37_onlyAsks() {
    changesNothing("gap", x -> x.gap(0, 1, 2));
  }

  @Of(promise = 38, says = NOTHING_IS_CHANGED)
  static void p38_onlyAsks() {
    changesNothing("confused", x -> x.confused(0));
  }

  @Of(promise = 39, says = NOTHING_IS_CHANGED)
  static void p39_onlyAsks() {
    changesNothing("planks", x -> x.planks(2, NONE));
  }

  @Of(promise = 40, says = NOTHING_IS_CHANGED)
  static void p40_onlyAsks() {
    changesNothing("column", x -> x.column(0));
  }

  @Of(promise = 41, says = NOTHING_IS_CHANGED)
  static void p41_onlyAsks() {
    changesNothing("odds", x -> x.odds(0));
  }

  @Of(promise = 42, says = NOTHING_IS_CHANGED)
  static void p42_onlyAsks() {
    changesNothing("worst", x -> x.worst(0));
  }

  @Of(promise = 43, says = NOTHING_IS_CHANGED)
  static void p43_onlyAsks() {
    changesNothing("ranked", x -> x.ranked(2));
  }

  @Of(promise = 44, says = NOTHING_IS_CHANGED)
  static void p44_onlyAsks() {
    changesNothing("duel", x -> x.duel(0, 0));
  }

  @Of(promise = 45, says = NOTHING_IS_CHANGED)
  static void p45_onlyAsks() {
    changesNothing("judge", x -> x.judge(1, 3));
    changesNothing("judge, WRONG", x -> x.judge(0, 3));
  }

  @Of(promise = 46, says = NOTHING_IS_CHANGED)
  static void p46_onlyAsks() {
    changesNothing("loud", x -> x.loud(1, 3, 0, 1));
  }

  @Of(promise = 54, says = "Nothing is promised beyond the answers and state changes described above")
  static void p54_onlyAsks() {
    changesNothing("status", x -> x.status(16));
    changesNothing("status, none", x -> x.status(17));
  }

  // ---- REFUSALS

  /** A refused call answers the number, and is counted once, as what it is. */
  private static void refused(String what, GravelHasTheLastWord x, ToLongFunction<GravelHasTheLastWord> call, int why) {
    int[] ahead = new int[5];
    for (int i = 0; i < 5; i++) {
      ahead[i] = x.status(12 + i);
    }
    due(what, call.applyAsLong(x), why);
    for (int i = 0; i < 5; i++) {
      due(what + ", REFUSALS " + (-2 - i), x.status(12 + i), why == -2 - i ? ahead[i] + 1 : ahead[i]);
    }
  }

  /** All calls that want a ROW in a SHELF, when another thing is in it. */
  private static void wantsRow(int s, int why) {
    refused("set", lived(), x -> x.set(s, 0, 1), why);
    refused("copy from there", lived(), x -> x.copy(s, 0, 0, 0, 1), why);
    refused("copy to there", lived(), x -> x.copy(0, s, 0, 0, 1), why);
    refused("who", lived(), x -> x.who(s, 0, 0), why);
    refused("two", lived(), x -> x.two(s, 0, 1, 0), why);
    refused("meant", lived(), x -> x.meant(s, 0, 0, 0), why);
    refused("judge", lived(), x -> x.judge(s, 3), why);
    refused("loud", lived(), x -> x.loud(s, 3, 0, 0), why);
    refused("done", lived(), x -> x.done(s, 3, 0), why);
  }

  @Of(promise = 0, says = "-2 BAD a number that may not be, nothing of that number.")
  static void p00_bad() throws ReflectiveOperationException {
    List<String> never = List.of("element", "holds", "wipe", "drive", "ways", "silent", "rake", "seed", "image", "back", "status");
    int[] numbers = {LEAST, -3, 41, MOST};
    int tried = 0;
    for (Method m : calls()) {
      for (int number : numbers) {
        boolean isByte = m.getName().equals("feed") && number == 41;
        boolean isArrivals = m.getName().equals("arrivals") && number == 41;
        if (!never.contains(m.getName()) && !isByte && !isArrivals) {
          tried++;
          GravelHasTheLastWord x = lived();
          due(m.getName() + " by " + number, answer(x, m, allOf(m, number)), BAD);
          due("counted", x.status(12), 1);
        }
      }
    }
    due("calls that may be BAD, four numbers each", tried, 42 * 4 - 2);
    refused("nothing of that number: FEET", fresh(), x -> x.odds(0), BAD);
    refused("CELL", lived(), x -> x.cellOf(9, 0), BAD);
    refused("COLUMN", lived(), x -> x.apart(3), BAD);
    refused("element", lived(), x -> x.set(0, 3, 1), BAD);
  }

  @Of(promise = 0, says = "-3 OTHER: a SHELF that holds another thing than is wanted.")
  static void p00_other() {
    wantsRow(2, OTHER);
    refused("says", lived(), x -> x.says(0, FOOT), OTHER);
  }

  @Of(promise = 0, says = "-4 NOTHING: a SHELF that holds NOTHING.")
  static void p00_nothing() {
    wantsRow(6, NOTHING);
    wantsRow(7, NOTHING);
    refused("says", lived(), x -> x.says(6, FOOT), NOTHING);
  }

  @Of(promise = 0, says = "-5 STUCK: it can't be as things stand.")
  static void p00_stuck() {
    refused("unheard", ears(lived(), 0, 1), x -> x.unheard(2, 0), STUCK);
    refused("raked", lived(), x -> x.raked(0, 2), STUCK);
    refused("planks", lived(), x -> x.planks(0, 2), STUCK);
    refused("who", lived(), x -> x.who(0, 0, 2), STUCK);
    refused("as", lived(), x -> x.as(1, 2, 0, 0), STUCK);
    refused("loud", lived(), x -> x.loud(0, 3, 0, 0), STUCK);
    refused("done", lived(), x -> x.done(0, 3, 0), STUCK);
    refused("arrivals", nobody(), x -> x.arrivals(1), STUCK);
    refused("back", nobody(), x -> x.back(), STUCK);
  }

  @Of(promise = 0, says = "-6 FULL.")
  static void p00_full() {
    refused("feet", filled(), x -> x.feet(0, 0, 1), FULL);
    refused("feed", filled(), x -> x.feed(0), FULL);
  }

  @Of(promise = 0, says = "REFUSALS (the call answers the number; nothing changes but how many there were;")
  static void p00_oneBehindAnother() {
    GravelHasTheLastWord x = filled();
    for (int round = 0; round < 3; round++) {
      refused("BAD", x, y -> y.side(7), BAD);
      refused("OTHER", x, y -> y.set(2, 0, 1), OTHER);
      refused("NOTHING", x, y -> y.set(6, 0, 1), NOTHING);
      refused("STUCK", x, y -> y.done(0, 3, 0), STUCK);
      refused("FULL", x, y -> y.feed(0), FULL);
    }
    dueAll("REFUSALS", why -> x.status(12 + why), 3, 3, 3, 3, 3);
    x.wipe();
    refused("a FAULT is BAD too", x, y -> y.drive() + 18, BAD);
  }

  @Of(promise = 0, says = "the first that fits as each line has them):")
  static void p00_theFirstThatFits() {
    refused("COLUMN, then FEET on the SHELF", lived(), x -> x.who(2, 3, 0), BAD);
    refused("n, then NOTHING", lived(), x -> x.judge(6, 41), BAD);
    refused("FEET on the one SHELF, then NOTHING", lived(), x -> x.copy(2, 6, 0, 0, 1), OTHER);
    refused("NOTHING on the one SHELF, and FEET", lived(), x -> x.copy(6, 2, 0, 0, 1), OTHER);
    refused("FEET on the SHELF, then i", lived(), x -> x.set(2, 40, 1), OTHER);
    refused("NOTHING, then i", lived(), x -> x.set(6, 40, 1), NOTHING);
    refused("fewer elements, then none fits", lived(), x -> x.who(5, 0, 2), BAD);
    refused("fewer elements, then WRONG", lived(), x -> x.done(1, 6, 0), BAD);
    refused("i, then STUCK", ears(lived(), 0, 1), x -> x.unheard(2, 3), BAD);
    refused("m, then STUCK", nobody(), x -> x.arrivals(61), BAD);
    refused("LIKELY, then FULL", filled(), x -> x.feet(0, 0, 100), BAD);
    refused("no byte, then FULL", filled(), x -> x.feed(256), BAD);
  }

  // ---- how long an object is used

  @Of(promise = 0, says = "what later calls answer is free")
  static void p00_laterCalls() throws ReflectiveOperationException {
    GravelHasTheLastWord x = filled();
    for (int call = 1; call <= 2000; call++) {
      x.ways();
    }
    int[] numbers = {LEAST, NONE, 0, 1, 2, MOST};
    for (Method m : calls()) {
      for (int number : numbers) {
        answer(x, m, allOf(m, number));
      }
    }
    due("it answers still", x.status(17), NONE);
  }

  @Of(promise = 0, says = "An object is used for at most 512 calls after it has been made")
  static void p00_512calls() {
    GravelHasTheLastWord x = feet(fresh(), FOOT, 0, 1);
    for (int call = 2; call <= 511; call++) {
      due("raked", x.raked(0, call % 2 == 0 ? NONE : 0), call % 2 == 0 ? NONE : STUCK);
    }
    due("the 512th", x.status(15), 255);
    GravelHasTheLastWord y = feet(fresh(), FOOT, 0, 1);
    for (int call = 2; call <= 511; call++) {
      due("arrivals", y.arrivals(60), 60);
    }
    due("the 512th", y.arrivals(60), 60);
    GravelHasTheLastWord z = fresh();
    for (int call = 1; call <= 511; call++) {
      due("a new ROW", z.row(call % 8, call % 5, 40), 1);
    }
    due("the 512th", z.status(8), 8);
    GravelHasTheLastWord w = fresh();
    for (int call = 1; call <= 511; call++) {
      due("BAD", w.side(7), BAD);
    }
    due("the 512th", w.status(12), 511);
  }
}
