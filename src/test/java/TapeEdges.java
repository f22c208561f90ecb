/** THE TAPE and the DRIVES read from it at their edges: promises 13 to 15. */
public final class TapeEdges extends Edges {
  public static void main(String[] args) {
    run(TapeEdges.class);
  }

  /** A TAPE that has a FAULT: where, that it is counted, that nothing comes of it, that THE TAPE is empty then. */
  private static void fault(String text, int place) {
    GravelHasTheLastWord x = feet(drive("5 1 5 2"), CAT, 2, 20);
    x.ask(0, 1);
    due("drive of '" + text + "'", told(x, text), -20 - place);
    due("'" + text + "' counted as BAD", x.status(12), 1);
    int[] want = {1, 2, 1, 4, 13, 20, 0, 1, 0};
    dueAll("'" + text + "' and status", x::status, want);
    dueAll("'" + text + "' and GRAVEL", cell -> x.cellOf(cell, 0), 5, 1, 5, 2);
  }

  private static GravelHasTheLastWord after(String text, int statements) {
    GravelHasTheLastWord x = fresh();
    due("drive of '" + text + "'", told(x, text), statements);
    due("refused", x.status(12), 0);
    return x;
  }

  // ---- 13: feed

  @Of(promise = 13, says = "THE TAPE gets one byte (0 to 255) behind it: its size. BAD; FULL.")
  static void p13_bytes() {
    takes("byte", 0, 255, letter -> fresh().feed(letter), 1);
  }

  @Of(promise = 13, says = "THE TAPE (bytes, 250 at most)")
  static void p13_full() {
    GravelHasTheLastWord x = fresh();
    for (int size = 1; size <= 250; size++) {
      due("size", x.feed(size % 256), size);
    }
    due("a byte more", x.feed(32), FULL);
    due("another", x.feed(255), FULL);
    due("size as it was", x.status(6), 250);
    due("FULL counted", x.status(16), 2);
  }

  @Of(promise = 13, says = "BAD; FULL.")
  static void p13_twoReasons() {
    GravelHasTheLastWord x = filled();
    refuses("byte", 0, 255, x::feed, BAD);
    due("FULL alone", x.feed(0), FULL);
    due("FULL alone", x.feed(255), FULL);
    due("size as it was", x.status(6), 250);
  }

  @Of(promise = 13, says = "BAD")
  static void p13_refusedIsNoByte() {
    GravelHasTheLastWord x = feed(fresh(), "rak");
    due("256", x.feed(256), BAD);
    due("-1", x.feed(-1), BAD);
    due("size", x.status(6), 3);
    due("the fourth", x.feed('e'), 4);
    due("as if nothing was between", x.drive(), 1);
  }

  // ---- 14: wipe

  @Of(promise = 14, says = "THE TAPE is empty: its size ahead.")
  static void p14_wipe() {
    GravelHasTheLastWord x = fresh();
    due("an empty one", x.wipe(), 0);
    x.feed(0);
    due("one byte", x.wipe(), 1);
    for (int size = 0; size < 250; size++) {
      x.feed('a');
    }
    due("a full one", x.wipe(), 250);
    due("size", x.status(6), 0);
    due("an empty one again", x.wipe(), 0);
    due("there is room again", x.feed('r'), 1);
    due("nothing of the old one", told(x, "ake"), 1);
    due("refused", x.status(12) + x.status(16), 0);
  }

  // ---- 15: drive; what stands on a TAPE

  @Of(promise = 15, says = "STATEMENTS, one or more, with ; between")
  static void p15_howMany() {
    after("rake", 1);
    after("rake;rake", 2);
    after("rain 0;rain 9;rain 0", 3);
    String many = "rake" + ";rake".repeat(49);
    due("249 bytes", many.length(), 249);
    due("all GRAVEL", after(many, 50).status(4), 144);
  }

  @Of(promise = 15, says = "THE TAPE is a DRIVE: how many STATEMENTS")
  static void p15_eachStatementCounts() {
    String[] told = {"side 2", "gravel 0 0", "plank 0", "rake", "foot 0 0 1", "rain 0", "ear 1"};
    String all = "";
    for (int i = 0; i < told.length; i++) {
      after(told[i], 1);
      all = all + (i == 0 ? "" : ";") + told[i];
      after(all, i + 1);
    }
    after(all + ";" + all, 14);
    after(all + ";rake;rake", 9);
  }

  @Of(promise = 15, says = "A DRIVE is read from THE TAPE (bytes, 250 at most).")
  static void p15_fullTape() {
    GravelHasTheLastWord x = after("rake" + ";rake".repeat(48) + "; rake", 50);
    due("empty then", x.status(6), 0);
    due("side at the very end", after(" ".repeat(244) + "side 2", 1).status(1), 2);
    due("EAR at the very end", after(" ".repeat(244) + "ear 99", 1).status(3), 99);
    due("a word at the very end", after(" ".repeat(246) + "rake", 1).status(4), 64);
    fault("rake;".repeat(50), 250);
    fault(" ".repeat(250), 250);
    fault(";".repeat(250), 0);
    fault("a".repeat(250), 0);
    fault("1".repeat(250), 0);
    fault("rake" + " ".repeat(245) + ";", 250);
    fault("rake" + " ".repeat(245) + "9", 249);
    fault(" ".repeat(246) + "side", 250);
    fault("rain " + "0".repeat(245), 5);
  }

  @Of(promise = 15, says = "blanks (32) may stand anywhere between")
  static void p15_blanks() {
    due("none at all", after("rake;rake;rain5;ear9", 4).status(3), 9);
    due("ahead and behind", after("   rake   ", 1).status(4), 64);
    due("about the SIGN", after("rake  ;  rake", 2).status(4), 80);
    GravelHasTheLastWord x = after("foot5   9   99", 1);
    dueAll("of FEET", what -> x.feetOf(0, what), 5, 9, 99);
    due("a word at a NUMBER", after("rain9;side3 ;rain0", 3).status(1), 3);
    int[] others = {9, 10, 13, 0, 160};
    for (int other : others) {
      fault("rake" + (char) other, 4);
      fault((char) other + "rake", 0);
      fault("rain" + (char) other + "5", 4);
    }
  }

  @Of(promise = 15, says = "TOKENS, each as long as can be")
  static void p15_longestTokens() {
    fault("rakerake", 0);
    fault("rakes", 0);
    fault("rain 5ear 5", 6);
    fault("rake rake", 5);
    fault("rak e", 0);
    fault("ra ke", 0);
    fault("r", 0);
    fault("foot 0 0 10 0", 12);
    fault("foot 0010", 5);
    fault("foot 0 010", 7);
    fault("side 2 2", 7);
    fault("sidex 2", 0);
    fault("rain5x", 5);
  }

  @Of(promise = 15, says = "WORDS (a .. z), NUMBERS (digits), the SIGN ; -")
  static void p15_tokens() {
    for (char letter = 'a'; letter <= 'z'; letter++) {
      fault("" + letter, 0);
      fault("rake" + letter, 0);
      fault(letter + "rake", 0);
      fault("rain 1" + letter, 6);
      fault("rake;" + letter + ";rake", 5);
    }
    for (char digit = '0'; digit <= '9'; digit++) {
      due("RAIN by " + digit, after("rain" + digit, 1).status(2), digit - '0');
      due("EAR by 1 and " + digit, after("ear 1" + digit, 1).status(3), 10 + digit - '0');
      due("EAR by " + digit + " and 1", after("ear " + digit + "1", 1).status(3), 10 * (digit - '0') + 1);
      fault("rain 0" + digit + digit, 5);
      fault("rake" + digit, 4);
      fault("rake;" + digit, 5);
    }
    due("the SIGN parts WORDS and NUMBERS", after("rake;rain1;ear2;rake", 4).status(3), 2);
    fault("rake;;rake", 5);
    fault("rain;1", 4);
    fault("gravel 1;1", 8);
  }

  @Of(promise = 15, says = "the first TOKEN that can't stand there")
  static void p15_everyLetter() {
    String[] told = {"side 2", "gravel 0 0", "plank 0", "rake", "foot 0 0 1", "rain 0", "ear 1"};
    for (String text : told) {
      after(text, 1);
      int size = (text + " ").indexOf(' ');
      for (int i = 0; i < size; i++) {
        fault(text.substring(0, i) + "q" + text.substring(i + 1), 0);
        fault(text.substring(0, i) + text.substring(i + 1), 0);
        fault(text.substring(0, i) + text.charAt(i) + text.substring(i), 0);
        fault(text.substring(0, i) + Character.toUpperCase(text.charAt(i)) + text.substring(i + 1), 0);
      }
      fault(text.substring(0, size) + "s" + text.substring(size), 0);
    }
  }

  @Of(promise = 15, says = "(also a NUMBER that may not be, or has more than 2 digits")
  static void p15_digits() {
    due("one digit", after("ear 1", 1).status(3), 1);
    due("two digits", after("ear 01", 1).status(3), 1);
    due("two digits", after("ear 10", 1).status(3), 10);
    due("two digits", after("rain 00", 1).status(2), 0);
    due("two digits", after("side 02", 1).status(1), 2);
    due("two digits", after("gravel 00 09", 1).cellOf(0, 0), 9);
    due("two digits", after("foot 05 09 01", 1).feetOf(0, 0), 5);
    fault("ear 001", 4);
    fault("ear 100", 4);
    fault("rain 000", 5);
    fault("side 002", 5);
    fault("gravel 000 0", 7);
    fault("gravel 0 000", 9);
    fault("plank 001", 6);
    fault("foot 000 0 1", 5);
    fault("foot 0 000 1", 7);
    fault("foot 0 0 001", 9);
    fault("ear 4294967297", 4);
    fault("rain 18446744073709551616", 5);
  }

  @Of(promise = 15, says = "side N (all GRAVEL is 3 then)")
  static void p15_side() {
    for (int n = 2; n <= 6; n++) {
      GravelHasTheLastWord x = evenly(n, 8);
      due("side", told(x, "side " + n), 1);
      due("SIDE", x.status(1), n);
      due("all GRAVEL", x.status(4), 3 * n * n);
    }
    due("and what stands behind it", after("gravel 0 9;side 4;gravel 1 5", 3).status(4), 50);
    fault("side 0", 5);
    fault("side 1", 5);
    fault("side 7", 5);
    fault("side 99", 5);
    fault("side", 4);
    fault("side ", 5);
    fault("side;", 4);
    fault("side two", 5);
    fault("side 4 ;", 8);
  }

  @Of(promise = 15, says = "gravel C V")
  static void p15_gravel() {
    due("the first CELL, none", after("gravel 0 0", 1).cellOf(0, 0), 0);
    due("the last CELL, the most", after("gravel 15 9", 1).cellOf(15, 0), 9);
    due("the last CELL of SIDE 6", after("side 6;gravel 35 9", 2).cellOf(35, 0), 9);
    due("the last CELL of SIDE 2", after("side 2;gravel 3 9", 2).cellOf(3, 0), 9);
    due("of several the last", after("gravel 3 9;gravel 3 1", 2).cellOf(3, 0), 1);
    fault("gravel 4 0", 7);
    fault("side 6;gravel 36 0", 14);
    fault("side 6;gravel 99 0", 14);
    fault("gravel 3 10", 9);
    fault("gravel 3 99", 9);
    fault("gravel 3", 8);
    fault("gravel 3 ", 9);
    fault("gravel", 6);
    fault("gravel 3;", 8);
    fault("gravel 3 0 0", 11);
    fault("gravel rake", 7);
  }

  @Of(promise = 15, says = "gravel C V; plank C (GRAVEL 0)")
  static void p15_sideAtThatPlace() {
    due("CELLS of the SIDE told ahead", after("side 5;gravel 24 1;side 2", 3).status(1), 2);
    due("GRAVEL of it is gone", after("side 5;gravel 3 1;side 2", 3).status(4), 12);
    fault("gravel 4 1;side 5", 7);
    fault("side 5;side 2;gravel 4 1", 21);
    fault("side 5;side 2;plank 4", 20);
    fault("side 3;plank 9", 13);
  }

  @Of(promise = 15, says = "plank C (GRAVEL 0)")
  static void p15_plank() {
    due("the first CELL", after("plank 0", 1).cellOf(0, 0), 0);
    due("the last CELL", after("plank 15", 1).cellOf(15, 0), 0);
    due("nothing else", after("plank 15", 1).status(4), 45);
    due("one that is", after("plank 3;plank 3", 2).status(4), 45);
    fault("plank 4", 6);
    fault("plank 99", 6);
    fault("plank", 5);
    fault("plank 0 0", 8);
  }

  @Of(promise = 15, says = "rake (all GRAVEL that isn't 0 is 1 more, 9 at most)")
  static void p15_rake() {
    GravelHasTheLastWord x = drive("0189");
    due("rake", told(x, "rake"), 1);
    dueAll("GRAVEL", cell -> x.cellOf(cell, 0), 0, 2, 9, 9);
    due("again", told(x, "rake"), 1);
    dueAll("GRAVEL", cell -> x.cellOf(cell, 0), 0, 3, 9, 9);
    due("what was a plank ahead", after("plank 0;rake", 2).status(4), 60);
    due("a plank behind", after("rake;plank 0", 2).status(4), 60);
    GravelHasTheLastWord none = evenly(6, 0);
    due("no GRAVEL anywhere", told(none, "rake;rake"), 2);
    due("none of it", none.status(4), 0);
    GravelHasTheLastWord most = evenly(6, 9);
    due("the most everywhere", told(most, "rake;rake"), 2);
    due("no more of it", most.status(4), 324);
    fault("rake 1", 5);
  }

  @Of(promise = 15, says = "foot K A L")
  static void p15_foot() {
    GravelHasTheLastWord x = after("foot 0 0 1;foot 5 9 99", 2);
    dueAll("the least", what -> x.feetOf(0, what), 0, 0, 1);
    dueAll("the greatest", what -> x.feetOf(1, what), 5, 9, 99);
    fault("foot 6 0 1", 5);
    fault("foot 99 0 1", 5);
    fault("foot 0 10 1", 7);
    fault("foot 0 0 0", 9);
    fault("foot 0 0 00", 9);
    fault("foot 0 0 100", 9);
    fault("foot", 4);
    fault("foot 0", 6);
    fault("foot 0 0", 8);
    fault("foot 0 0 ", 9);
    fault("foot 0;", 6);
    fault("foot 0 0;", 8);
    fault("foot 0 0 1 1", 11);
    fault("foot;", 4);
  }

  @Of(promise = 15, says = "rain N; ear N")
  static void p15_rainAndEar() {
    due("no RAIN", after("rain 9;rain 0", 2).status(2), 0);
    due("the most", after("rain 9", 1).status(2), 9);
    due("the least EAR", after("ear 1", 1).status(3), 1);
    due("the greatest", after("ear 99", 1).status(3), 99);
    fault("rain 10", 5);
    fault("rain 99", 5);
    fault("rain", 4);
    fault("rain ear", 5);
    fault("ear 0", 4);
    fault("ear 00", 4);
    fault("ear 100", 4);
    fault("ear", 3);
    fault("ear 5 5", 6);
  }

  @Of(promise = 15, says = "All comes to what there is, or nothing.")
  static void p15_allOrNothing() {
    fault("side 3;gravel 8 9;foot 0 0 1;rain 5;ear 5;rake;plank 0;x", 55);
    fault("rake;rake;rake;", 15);
    GravelHasTheLastWord x = feet(evenly(2, 1), BOOT, 1, 5);
    due("it comes to what there is", told(x, "foot 2 2 2;gravel 0 9"), 2);
    due("FEET", x.status(0), 2);
    due("KIND of the first", x.feetOf(0, 0), BOOT);
    due("KIND of the second", x.feetOf(1, 0), SOFT);
    due("all GRAVEL", x.status(4), 12);
    due("a FAULT", told(x, "foot 3 3 3;gravel 0 1;gravel 4 1"), -20 - 29);
    due("FEET as they were", x.status(0), 2);
    due("all GRAVEL as it was", x.status(4), 12);
    due("no FEET of it are left behind", told(x, "foot 4 4 4"), 1);
    due("KIND of the third", x.feetOf(2, 0), CAT);
    due("SEED stays", x.status(7), 1);
  }

  @Of(promise = 15, says = "All comes to what there is, or nothing.")
  static void p15_keptStays() {
    GravelHasTheLastWord x = fresh();
    x.image();
    due("drive", told(x, "side 2;foot 0 0 1;rain 1;ear 1"), 4);
    due("a FAULT", told(x, "side 3;"), -27);
    x.back();
    dueAll("status", x::status, 0, 4, 0, 4, 48, 0, 0, 1, 0);
  }

  @Of(promise = 15, says = "what there is no room for: its word")
  static void p15_noRoom() {
    GravelHasTheLastWord x = fresh();
    due("eight", told(x, "foot 0 0 1" + ";foot 0 0 1".repeat(7)), 8);
    due("a ninth", told(x, "foot 0 0 1"), -20);
    due("a ninth, and a NUMBER that may not be", told(x, "foot 6 0 1"), -20);
    due("behind another", told(x, "rake; foot 0 0 1"), -26);
    due("nothing of it", x.status(4), 48);
    due("BAD, not FULL", x.status(12) * 10 + x.status(16), 30);
    GravelHasTheLastWord y = fresh();
    due("nine on one TAPE", told(y, "foot 0 0 1" + ";foot 0 0 1".repeat(8)), -20 - 88);
    due("none of them", y.status(0), 0);
    GravelHasTheLastWord z = feet(fresh(), 0, 0, 1, 0, 0, 1, 0, 0, 1, 0, 0, 1, 0, 0, 1, 0, 0, 1, 0, 0, 1);
    due("the eighth", told(z, "foot 5 5 5"), 1);
    dueAll("FEET", what -> z.feetOf(7, what), 5, 5, 5);
  }

  @Of(promise = 15, says = "a byte that begins none")
  static void p15_strangeBytes() {
    for (int letter = 0; letter <= 255; letter++) {
      boolean isWord = letter >= 'a' && letter <= 'z';
      boolean isBlank = letter == 32;
      boolean isSign = letter == ';';
      boolean isDigit = letter >= '0' && letter <= '9';
      GravelHasTheLastWord x = fresh();
      x.feed(letter);
      due("byte " + letter + " ahead", told(x, "rake"), isBlank ? 1 : -20);
      x.feed('r');
      x.feed('a');
      x.feed('k');
      x.feed('e');
      x.feed(letter);
      int behind = isBlank ? 1 : isSign ? -25 : isWord ? -20 : -24;
      due("byte " + letter + " behind", x.drive(), behind);
      feed(x, "rain 1");
      x.feed(letter);
      int atNumber = isBlank ? 1 : isSign ? -27 : isDigit ? -25 : -26;
      due("byte " + letter + " behind a NUMBER", x.drive(), atNumber);
    }
  }

  @Of(promise = 15, says = "The FAULT: the place of the first byte of the first TOKEN that can't stand there")
  static void p15_firstOfTwo() {
    fault(";", 0);
    fault("  ;", 2);
    fault("rake;;rake", 5);
    fault("7", 0);
    fault("rake;7", 5);
    fault("rake 7 !", 5);
    fault("side 9;side 9", 5);
    fault("gravel 9 99", 7);
    fault("foot 9 99 0", 5);
    fault("Rake", 0);
    fault("rAke", 0);
    fault("rakE", 0);
    fault("{", 0);
    fault("`", 0);
    fault("/", 0);
    fault(":", 0);
    fault("side 2!", 6);
    fault("-1", 0);
    fault("rain -1", 5);
  }

  @Of(promise = 15, says = "THE TAPE's size, if it ends too early.")
  static void p15_tooEarly() {
    fault("", 0);
    fault(" ", 1);
    fault("     ", 5);
    fault("rake;", 5);
    fault("rake; ", 6);
    fault("rake ; ", 7);
    fault("rain", 4);
    fault("rain   ", 7);
    fault("gravel 0", 8);
    fault("foot 0 0", 8);
    fault("side 2;ear", 10);
  }

  @Of(promise = 15, says = "THE TAPE is empty then, either way.")
  static void p15_emptyThen() {
    GravelHasTheLastWord x = fresh();
    due("drive", told(x, "rake"), 1);
    due("size", x.status(6), 0);
    due("drive of nothing", x.drive(), -20);
    due("a FAULT", told(x, "rakes"), -20);
    due("size", x.status(6), 0);
    due("wipe", x.wipe(), 0);
    due("a new one begins at 1", x.feed('r'), 1);
    due("and is all there is", told(x, "ake"), 1);
  }

  @Of(promise = 15, says = "-20 less the FAULT (that is refused, too: BAD)")
  static void p15_counted() {
    GravelHasTheLastWord x = fresh();
    for (int count = 1; count <= 5; count++) {
      due("drive of nothing", x.drive(), -20);
      due("counted as BAD", x.status(12), count);
    }
    due("as nothing else", x.status(13) + x.status(14) + x.status(15) + x.status(16), 0);
  }
}
