import java.util.ArrayList;
import java.util.List;
import java.util.Random;

/**
 * Random runs of calls, each answer against a plain model that goes through all WAYS one by one.
 * The draws are the same in every run of the test.
 */
public final class ModelTest {
  private static final int RUNS = 400;
  private static final int CALLS = 500;

  /** What the document says, by looking at every WAY. */
  static final class Model {
    int side = 4, rain = 0, ear = 4, seed = 1;
    int[] gravel = filled(4);
    List<int[]> feet = new ArrayList<>();
    StringBuilder tape = new StringBuilder();
    Object[] shelves = new Object[8];
    int[] refused = new int[7];
    Object[] kept;

    static int[] filled(int n) {
      int[] g = new int[n * n];
      java.util.Arrays.fill(g, 3);
      return g;
    }

    static final class Refusal extends RuntimeException {
      final int why;
      Refusal(int why) { this.why = why; }
    }

    static void bad(boolean isBad) { if (isBad) throw new Refusal(-2); }
    static void stuck(boolean isStuck) { if (isStuck) throw new Refusal(-5); }
    void badFeet(int f) { bad(f < 0 || f >= feet.size()); }
    void badCell(int c) { bad(c < 0 || c >= side * side); }
    void badColumn(int c) { bad(c < 0 || c >= side); }
    void badStep(int i) { bad(i < -1 || i >= side); }
    static void badWhat(int what, int most) { bad(what < 0 || what > most); }
    static void badShelf(int s) { bad(s < 0 || s > 7); }

    static int loudness(int kind, int a, int wet, int k) {
      if (wet == 0) return 0;
      int foot = wet + a;
      if (kind == 1 || kind == 3) return 2 * foot + (kind == 3 && k % 2 == 1 ? 1 : 0);
      if (kind == 4 && wet <= 4) return 0;
      if (kind == 2 || kind == 4) return foot < 3 ? 0 : foot - 3;
      if (kind == 5 && k % 2 == 1) return foot / 2;
      return foot;
    }

    int wet(int g, int r) { return g < r ? 0 : g - r; }
    int step(int f, int cell, int k, int[] g, int r) {
      return loudness(feet.get(f)[0], feet.get(f)[1], wet(g[cell], r), k);
    }
    int step(int f, int cell) { return step(f, cell, cell / side, gravel, rain); }

    /** All WAYS, the first by rows first. */
    List<int[]> all() {
      List<int[]> found = new ArrayList<>();
      grow(new int[side], 0, found);
      return found;
    }
    void grow(int[] way, int r, List<int[]> found) {
      if (r == side) { found.add(way.clone()); return; }
      for (int c = 0; c < side; c++) {
        if (r > 0 && Math.abs(way[r - 1] % side - c) > 1) continue;
        way[r] = r * side + c;
        grow(way, r + 1, found);
      }
    }
    int sum(int f, int[] way, int[] g) {
      int s = 0;
      for (int k = 0; k < side; k++) s += step(f, way[k], k, g, rain);
      return s;
    }
    int greatest(int f, int[] way) {
      int s = 0;
      for (int cell : way) s = Math.max(s, step(f, cell));
      return s;
    }
    boolean isQuiet(int f, int[] way, int[] g, int r) {
      for (int k = 0; k < side; k++) if (step(f, way[k], k, g, r) >= ear) return false;
      return true;
    }
    boolean someQuiet(int f, List<int[]> ways, int[] g, int r) {
      for (int[] w : ways) if (isQuiet(f, w, g, r)) return true;
      return false;
    }
    List<Integer> sound(int f, int column, int r) {
      List<Integer> s = new ArrayList<>();
      for (int k = 0; k < side; k++) s.add(step(f, k * side + column, k, gravel, r));
      return s;
    }
    int best(int f, int i, int sign, boolean byGreatest) {
      badFeet(f);
      badStep(i);
      int[] best = null;
      int least = 0;
      for (int[] w : all()) {
        int v = byGreatest ? greatest(f, w) : sign * sum(f, w, gravel);
        if (best == null || v < least) { best = w; least = v; }
      }
      return i == -1 ? sign * least : best[i];
    }
    int firstOf(List<int[]> ways, int i) {
      if (i == -1) return ways.size();
      stuck(ways.isEmpty());
      return ways.get(0)[i];
    }
    int unheard(int f, int i) {
      badFeet(f);
      badStep(i);
      List<int[]> quiet = new ArrayList<>();
      for (int[] w : all()) if (isQuiet(f, w, gravel, rain)) quiet.add(w);
      return firstOf(quiet, i);
    }
    int fewest(int f, int i, int value, boolean wanted) {
      badFeet(f);
      bad(i < -1);
      int[] cells = fewestCells(f, value, wanted, all());
      if (i == -1) return cells == null ? -1 : cells.length;
      stuck(cells == null || i >= cells.length);
      return cells[i];
    }
    int[] fewestCells(int f, int value, boolean wanted, List<int[]> ways) {
      if (someQuiet(f, ways, gravel, rain) == wanted) return new int[0];
      int[] g = gravel.clone();
      for (int c = 0; c < g.length; c++) {
        g[c] = value;
        if (someQuiet(f, ways, g, rain) == wanted) return new int[] {c};
        g[c] = gravel[c];
      }
      for (int c = 0; c < g.length; c++) {
        g[c] = value;
        for (int d = c + 1; d < g.length; d++) {
          g[d] = value;
          if (someQuiet(f, ways, g, rain) == wanted) return new int[] {c, d};
          g[d] = gravel[d];
        }
        g[c] = gravel[c];
      }
      return null;
    }

    long at(Object row, int i) {
      if (row instanceof byte[]) return ((byte[]) row)[i];
      if (row instanceof short[]) return ((short[]) row)[i];
      if (row instanceof int[]) return ((int[]) row)[i];
      if (row instanceof long[]) return ((long[]) row)[i];
      return ((boolean[]) row)[i] ? 1 : 0;
    }
    int size(Object row) { return java.lang.reflect.Array.getLength(row); }
    Object rowIn(int s) {
      if (shelves[s] instanceof Integer) throw new Refusal(-3);
      if (shelves[s] == null) throw new Refusal(-4);
      return shelves[s];
    }
    Object rowIn(int s, int least) {
      Object row = rowIn(s);
      bad(size(row) < least);
      return row;
    }
    int sortOf(Object held) {
      if (held == null) return -1;
      if (held instanceof byte[]) return 0;
      if (held instanceof short[]) return 1;
      if (held instanceof int[]) return 2;
      if (held instanceof long[]) return 3;
      if (held instanceof boolean[]) return 4;
      return 10 + (Integer) held;
    }
    Object newRow(int sort, int n) {
      switch (sort) {
        case 0: return new byte[n];
        case 1: return new short[n];
        case 2: return new int[n];
        case 3: return new long[n];
        default: return new boolean[n];
      }
    }
    void put(Object row, int i, long v) {
      if (row instanceof byte[]) ((byte[]) row)[i] = (byte) v;
      else if (row instanceof short[]) ((short[]) row)[i] = (short) v;
      else if (row instanceof int[]) ((int[]) row)[i] = (int) v;
      else if (row instanceof long[]) ((long[]) row)[i] = v;
      else ((boolean[]) row)[i] = v != 0;
    }
    int copy(int p, int q, int i, int j, int n) {
      badShelf(p);
      badShelf(q);
      Object a = shelves[p], b = shelves[q];
      if (a instanceof Integer || b instanceof Integer) throw new Refusal(-3);
      if (a != null && b != null && a.getClass() != b.getClass()) throw new Refusal(-3);
      if (a == null || b == null) throw new Refusal(-4);
      bad(n < 0 || i < 0 || j < 0 || (long) i + n > size(a) || (long) j + n > size(b));
      System.arraycopy(a, i, b, j, n);
      return n;
    }
    boolean isUnder(int kind, int wanted) {
      if (wanted == 0 || kind == wanted) return true;
      return wanted == 1 && kind == 3 || wanted == 2 && kind == 4;
    }
    int says(int s, int kind) {
      badShelf(s);
      bad(kind < 0 || kind > 5);
      if (shelves[s] == null) throw new Refusal(-4);
      if (!(shelves[s] instanceof Integer)) throw new Refusal(-3);
      int f = (Integer) shelves[s];
      if (!isUnder(feet.get(f)[0], kind)) throw new Refusal(-3);
      return kind == 0 ? feet.get(f)[2] : step(f, 0, 1, gravel, rain);
    }

    boolean fits(int kind, int a, Object row, int column, int n) {
      for (int k = 0; k < n; k++) {
        if (at(row, k) != loudness(kind, a, wet(gravel[k * side + column], rain), k)) return false;
      }
      return true;
    }
    List<Integer> fitting(Object row, int column, int n) {
      List<Integer> found = new ArrayList<>();
      for (int f = 0; f < feet.size(); f++) {
        if (fits(feet.get(f)[0], feet.get(f)[1], row, column, n)) found.add(f);
      }
      return found;
    }
    int bits(List<Integer> found) {
      int b = 0;
      for (int f : found) b += 1 << f;
      return b;
    }
    int likely(List<Integer> found) {
      int all = 0;
      for (int f : found) all += feet.get(f)[2];
      return all;
    }
    int likeliest(List<Integer> found) {
      int best = -1;
      for (int f : found) if (best == -1 || feet.get(f)[2] > feet.get(best)[2]) best = f;
      return best;
    }
    int who(int s, int column, int what) {
      badShelf(s);
      badColumn(column);
      badWhat(what, 3);
      Object row = rowIn(s, side);
      List<Integer> found = fitting(row, column, side);
      if (what == 0) return bits(found);
      if (what == 1) return likeliest(found);
      if (what == 2) {
        stuck(found.isEmpty());
        return 1000 * feet.get(likeliest(found))[2] / likely(found);
      }
      if (found.isEmpty()) return -1;
      for (int n = 1; n <= side; n++) if (fitting(row, column, n).size() == 1) return n;
      return -1;
    }
    int apart(int column, int r) {
      badColumn(column);
      int count = 0;
      for (int f = 0; f < feet.size(); f++) {
        boolean isApart = true;
        for (int g = 0; g < feet.size(); g++) {
          if (g != f && sound(f, column, r).equals(sound(g, column, r))) isApart = false;
        }
        if (isApart) count++;
      }
      return count;
    }
    int telling(int what) {
      badWhat(what, 1);
      if (what == 0) {
        int best = 0;
        for (int c = 1; c < side; c++) if (apart(c, rain) > apart(best, rain)) best = c;
        return best;
      }
      for (int r = 0; r < 10; r++) {
        for (int c = 0; c < side; c++) if (apart(c, r) == feet.size()) return r;
      }
      return -1;
    }
    int as(int f, int g, int column, int i) {
      badFeet(f);
      badFeet(g);
      bad(f == g);
      badColumn(column);
      badStep(i);
      List<Integer> wanted = sound(g, column, rain);
      List<int[]> same = new ArrayList<>();
      for (int[] w : all()) {
        List<Integer> heard = new ArrayList<>();
        for (int cell : w) heard.add(step(f, cell));
        if (heard.equals(wanted)) same.add(w);
      }
      return firstOf(same, i);
    }
    int two(int s, int column, int other, int what) {
      badShelf(s);
      badColumn(column);
      badColumn(other);
      bad(column == other);
      badWhat(what, 1);
      Object row = rowIn(s, side);
      List<Integer> pairs = new ArrayList<>();
      for (int f = 0; f < feet.size(); f++) {
        for (int g = 0; g < feet.size(); g++) {
          boolean isSo = f != g;
          for (int k = 0; k < side; k++) {
            isSo &= at(row, k) == sound(f, column, rain).get(k) + sound(g, other, rain).get(k);
          }
          if (isSo) pairs.add(10 * f + g);
        }
      }
      return what == 0 ? pairs.size() : pairs.isEmpty() ? -1 : pairs.get(0);
    }
    int meant(int s, int f, int column, int what) {
      badShelf(s);
      badFeet(f);
      badColumn(column);
      badWhat(what, 1);
      Object row = rowIn(s, side);
      int found = 0;
      for (int kind = 0; kind < 6; kind++) if (fits(kind, feet.get(f)[1], row, column, side)) found += 1 << kind;
      if (what == 0) return found;
      for (int a = 0; a < 10; a++) if (fits(feet.get(f)[0], a, row, column, side)) return a;
      return -1;
    }
    int through(int cell) {
      badCell(cell);
      int count = 0;
      for (int[] w : all()) if (w[cell / side] == cell) count++;
      return count;
    }
    int dry(int f) {
      badFeet(f);
      List<int[]> ways = all();
      for (int r = 0; r < 10; r++) if (someQuiet(f, ways, gravel, r)) return r;
      return -1;
    }
    int mean(int f) {
      badFeet(f);
      long sum = 0;
      List<int[]> ways = all();
      for (int[] w : ways) sum += sum(f, w, gravel);
      return (int) (1000 * sum / ways.size());
    }
    int heardOn(int cell) {
      badCell(cell);
      int b = 0;
      for (int f = 0; f < feet.size(); f++) if (step(f, cell) >= ear) b += 1 << f;
      return b;
    }
    int silent() {
      int count = 0;
      for (int g : gravel) if (g <= rain) count++;
      return count;
    }
    int heardBy(int f) {
      badFeet(f);
      int count = 0;
      for (int c = 0; c < side * side; c++) if (step(f, c) >= ear) count++;
      return count;
    }
    int gap(int f, int g, int column) {
      badFeet(f);
      badFeet(g);
      bad(f == g);
      badColumn(column);
      for (int k = 0; k < side; k++) {
        if (!sound(f, column, rain).get(k).equals(sound(g, column, rain).get(k))) return k;
      }
      return -1;
    }
    int confused(int f) {
      badFeet(f);
      int b = 0;
      for (int g = 0; g < feet.size(); g++) {
        boolean isSame = false;
        for (int c = 0; c < side; c++) isSame |= sound(f, c, rain).equals(sound(g, c, rain));
        if (isSame && f != g) b += 1 << g;
      }
      return b;
    }
    int column(int f) {
      badFeet(f);
      int best = 0;
      for (int c = 1; c < side; c++) if (total(f, c) < total(f, best)) best = c;
      return best;
    }
    int total(int f, int c) {
      int all = 0;
      for (int v : sound(f, c, rain)) all += v;
      return all;
    }
    int odds(int f) {
      badFeet(f);
      return 1000 * feet.get(f)[2] / status(5);
    }
    int worst(int f) {
      badFeet(f);
      int best = 0;
      for (int c = 1; c < side * side; c++) if (step(f, c) > step(f, best)) best = c;
      return best;
    }
    int ranked(int i) {
      badFeet(i);
      List<Integer> order = new ArrayList<>();
      for (int f = 0; f < feet.size(); f++) order.add(f);
      order.sort((f, g) -> Integer.compare(best(f, -1, 1, false), best(g, -1, 1, false)));
      return order.get(i);
    }
    int duel(int f, int what) {
      badFeet(f);
      badWhat(what, 1);
      int cell = -1, most = -1;
      List<int[]> ways = all();
      for (int c = 0; c < side * side; c++) {
        int[] g = gravel.clone();
        g[c] = 9;
        int least = 1 << 20;
        for (int[] w : ways) least = Math.min(least, sum(f, w, g));
        if (least > most) { most = least; cell = c; }
      }
      return what == 0 ? cell : most;
    }
    int wrong(Object row, int n) {
      for (int i = 0; i < n; i++) {
        long v = at(row, i);
        if (i >= side || v < 0 || v >= side * side || v / side != i) return i;
        if (i > 0 && Math.abs(v % side - at(row, i - 1) % side) > 1) return i;
      }
      return n < side ? n : -1;
    }
    int judge(int s, int n) {
      badShelf(s);
      bad(n < 0 || n > 40);
      return wrong(rowIn(s, n), n);
    }
    int loud(int s, int n, int f, int what) {
      badShelf(s);
      bad(n < 0 || n > 40);
      badFeet(f);
      badWhat(what, 1);
      Object row = rowIn(s, n);
      stuck(wrong(row, n) != -1);
      int all = 0, first = -1;
      for (int k = 0; k < side; k++) {
        int v = step(f, (int) at(row, k));
        all += v;
        if (v >= ear && first == -1) first = k;
      }
      return what == 0 ? all : first;
    }
    int done(int s, int n, int f) {
      int all = loud(s, n, f, 0);
      for (int k = 0; k < side; k++) {
        int cell = (int) at(shelves[s], k);
        if (gravel[cell] > 0) gravel[cell]--;
      }
      return all;
    }
    int rake() {
      for (int c = 0; c < gravel.length; c++) if (gravel[c] > 0 && gravel[c] < 9) gravel[c]++;
      return status(4);
    }
    int sweep(int column) {
      badColumn(column);
      int was = 0;
      for (int c = column; c < gravel.length; c += side) { was += gravel[c]; gravel[c] = 0; }
      return was;
    }
    int draw(int n) {
      seed = (int) ((long) seed * 1103515245L + 12345L);
      return (seed >> 16 & 0xffff) % n;
    }
    int arrivals(int m) {
      bad(m < 1 || m > 60);
      stuck(feet.isEmpty());
      int right = 0;
      for (int t = 0; t < m; t++) {
        int d = draw(status(5)), f = 0, ahead = feet.get(0)[2];
        while (ahead <= d) ahead += feet.get(++f)[2];
        int c = draw(side);
        List<Integer> same = new ArrayList<>();
        for (int g = 0; g < feet.size(); g++) if (sound(g, c, rain).equals(sound(f, c, rain))) same.add(g);
        if (likeliest(same) == f) right++;
      }
      return right;
    }
    int image() {
      kept = new Object[] {side, rain, ear, seed, gravel.clone(), new ArrayList<>(feet)};
      return 1;
    }
    @SuppressWarnings("unchecked")
    int back() {
      stuck(kept == null);
      side = (Integer) kept[0];
      rain = (Integer) kept[1];
      ear = (Integer) kept[2];
      seed = (Integer) kept[3];
      gravel = ((int[]) kept[4]).clone();
      feet = new ArrayList<>((List<int[]>) kept[5]);
      for (int s = 0; s < 8; s++) {
        if (shelves[s] instanceof Integer && (Integer) shelves[s] >= feet.size()) shelves[s] = null;
      }
      return 1;
    }
    int status(int what) {
      int sum = 0;
      switch (what) {
        case 0: return feet.size();
        case 1: return side;
        case 2: return rain;
        case 3: return ear;
        case 4: for (int g : gravel) sum += g; return sum;
        case 5: for (int[] f : feet) sum += f[2]; return sum;
        case 6: return tape.length();
        case 7: return seed;
        case 8: for (Object o : shelves) if (o != null) sum++; return sum;
        default: return what >= 12 && what <= 16 ? refused[what - 10] : -1;
      }
    }

    // ---- drives read from texts

    static final class Fault extends RuntimeException {
      final int place;
      Fault(int place) { this.place = place; }
    }
    List<String> tokens;
    List<Integer> places;
    int next;

    int drive() {
      Object[] before = kept;
      image();
      Object[] ahead = kept;
      kept = before;
      try {
        return readDrive();
      } catch (Fault fault) {
        side = (Integer) ahead[0];
        rain = (Integer) ahead[1];
        ear = (Integer) ahead[2];
        gravel = (int[]) ahead[4];
        @SuppressWarnings("unchecked")
        List<int[]> f = (List<int[]>) ahead[5];
        feet = f;
        refused[2]++;
        return -20 - fault.place;
      } finally {
        tape.setLength(0);
      }
    }
    int readDrive() {
      tokens = new ArrayList<>();
      places = new ArrayList<>();
      java.util.regex.Matcher m =
          java.util.regex.Pattern.compile("[a-z]+|[0-9]+|;|[^ ]", java.util.regex.Pattern.DOTALL).matcher(tape);
      while (m.find()) { tokens.add(m.group()); places.add(m.start()); }
      next = 0;
      for (int told = 1; ; told++) {
        statement();
        if (next == tokens.size()) return told;
        if (!tokens.get(next).equals(";")) throw new Fault(places.get(next));
        next++;
      }
    }
    int place() { return next < places.size() ? places.get(next) : tape.length(); }
    int number(int low, int high) {
      if (next >= tokens.size() || !tokens.get(next).matches("[0-9]{1,2}")) throw new Fault(place());
      int v = Integer.parseInt(tokens.get(next));
      if (v < low || v > high) throw new Fault(place());
      next++;
      return v;
    }
    void statement() {
      String word = next < tokens.size() ? tokens.get(next) : "";
      int at = place();
      next++;
      switch (word) {
        case "side": side = number(2, 6); gravel = filled(side); break;
        case "gravel": { int c = number(0, side * side - 1); gravel[c] = number(0, 9); break; }
        case "plank": gravel[number(0, side * side - 1)] = 0; break;
        case "rake": rake(); break;
        case "foot": {
          if (feet.size() == 8) throw new Fault(at);
          feet.add(new int[] {number(0, 5), number(0, 9), number(1, 99)});
          break;
        }
        case "rain": rain = number(0, 9); break;
        case "ear": ear = number(1, 99); break;
        default: throw new Fault(at);
      }
    }

    int simple(String name, int[] v) {
      switch (name) {
        case "row": badShelf(v[0]); bad(v[1] < 0 || v[1] > 4 || v[2] < 0 || v[2] > 40);
          shelves[v[0]] = newRow(v[1], v[2]); return 1;
        case "copy": return copy(v[0], v[1], v[2], v[3], v[4]);
        case "holds": return v[0] < 0 || v[0] > 7 ? -1 : sortOf(shelves[v[0]]);
        case "show": badShelf(v[0]); if (v[1] != -1) badFeet(v[1]);
          shelves[v[0]] = v[1] == -1 ? null : Integer.valueOf(v[1]); return 1;
        case "says": return says(v[0], v[1]);
        case "side": { bad(v[0] < 2 || v[0] > 6); int was = side; side = v[0]; gravel = filled(side); return was; }
        case "gravel": { badCell(v[0]); bad(v[1] < 0 || v[1] > 9); int was = gravel[v[0]];
          gravel[v[0]] = v[1]; return was; }
        case "ask": { badWhat(v[0], 1); bad(v[0] == 0 ? v[1] < 0 || v[1] > 9 : v[1] < 1 || v[1] > 99);
          int was = v[0] == 0 ? rain : ear; if (v[0] == 0) rain = v[1]; else ear = v[1]; return was; }
        case "feet": bad(v[0] < 0 || v[0] > 5 || v[1] < 0 || v[1] > 9 || v[2] < 1 || v[2] > 99);
          if (feet.size() == 8) throw new Refusal(-6);
          feet.add(new int[] {v[0], v[1], v[2]}); return feet.size() - 1;
        case "feed": bad(v[0] < 0 || v[0] > 255); if (tape.length() == 250) throw new Refusal(-6);
          tape.append((char) v[0]); return tape.length();
        case "wipe": { int was = tape.length(); tape.setLength(0); return was; }
        case "drive": return drive();
        case "feetOf": badFeet(v[0]); badWhat(v[1], 2); return feet.get(v[0])[v[1]];
        case "cellOf": badCell(v[0]); badWhat(v[1], 1);
          return v[1] == 0 ? gravel[v[0]] : wet(gravel[v[0]], rain);
        case "crunch": badFeet(v[0]); badCell(v[1]); bad(v[2] < 0 || v[2] > 5);
          return step(v[0], v[1], v[2], gravel, rain);
        case "image": return image();
        case "back": return back();
        case "seed": { int was = seed; seed = v[0]; return was; }
        default: return search(name, v);
      }
    }
    int search(String name, int[] v) {
      switch (name) {
        case "quietest": return best(v[0], v[1], 1, false);
        case "softest": return best(v[0], v[1], 1, true);
        case "loudest": return best(v[0], v[1], -1, false);
        case "unheard": return unheard(v[0], v[1]);
        case "raked": return fewest(v[0], v[1], 9, false);
        case "planks": return fewest(v[0], v[1], 0, true);
        case "who": return who(v[0], v[1], v[2]);
        case "apart": return apart(v[0], rain);
        case "telling": return telling(v[0]);
        case "as": return as(v[0], v[1], v[2], v[3]);
        case "two": return two(v[0], v[1], v[2], v[3]);
        case "meant": return meant(v[0], v[1], v[2], v[3]);
        case "ways": return all().size();
        case "through": return through(v[0]);
        case "dry": return dry(v[0]);
        case "mean": return mean(v[0]);
        case "heardOn": return heardOn(v[0]);
        case "silent": return silent();
        case "heardBy": return heardBy(v[0]);
        case "gap": return gap(v[0], v[1], v[2]);
        case "confused": return confused(v[0]);
        case "column": return column(v[0]);
        case "odds": return odds(v[0]);
        case "worst": return worst(v[0]);
        case "ranked": return ranked(v[0]);
        case "duel": return duel(v[0], v[1]);
        case "judge": return judge(v[0], v[1]);
        case "loud": return loud(v[0], v[1], v[2], v[3]);
        case "done": return done(v[0], v[1], v[2]);
        case "rake": return rake();
        case "sweep": return sweep(v[0]);
        case "arrivals": return arrivals(v[0]);
        default: return status(v[0]);
      }
    }
    int answer(String name, int[] v) {
      try {
        return simple(name, v);
      } catch (Refusal r) {
        refused[-r.why]++;
        return r.why;
      }
    }
    int set(int s, int i, long v) {
      try {
        badShelf(s);
        Object row = rowIn(s);
        bad(i < 0 || i >= size(row));
        put(row, i, v);
        return 1;
      } catch (Refusal r) {
        refused[-r.why]++;
        return r.why;
      }
    }
    long element(int s, int i) {
      if (s < 0 || s > 7 || shelves[s] == null || shelves[s] instanceof Integer) return 0;
      return i < 0 || i >= size(shelves[s]) ? 0 : at(shelves[s], i);
    }
  }

  /** Calls by name, each with the kinds of its arguments (a letter each). */
  private static final String[] FACE = {
    "row sSN", "copy ssnnn", "holds s", "show sf", "says sk", "side d", "gravel cv", "ask wv", "feet kvl",
    "feed b", "wipe ", "drive ", "feetOf fw", "cellOf cw", "crunch fck", "quietest fi", "softest fi", "unheard fi",
    "raked fi", "who sow", "apart o", "telling w", "as ffoi", "two soow", "meant sfow", "loudest fi", "ways ",
    "through c", "dry f", "mean f", "heardOn c", "silent ", "heardBy f", "gap ffo", "confused f", "planks fi",
    "column f", "odds f", "worst f", "ranked f", "duel fw", "judge sn", "loud snfw", "done snf", "rake ", "sweep o",
    "arrivals m", "seed x", "image ", "back ", "status t"
  };

  private final Random random;
  private final GravelHasTheLastWord subject = new GravelHasTheLastWord();
  private final Model model = new Model();
  private final java.util.Map<String, java.lang.reflect.Method> methods = new java.util.HashMap<>();
  private final StringBuilder told = new StringBuilder();
  private int calls = 0;
  private static final java.util.Map<String, Integer> fine = new java.util.TreeMap<>();

  private ModelTest(long number) {
    random = new Random(number);
    for (java.lang.reflect.Method m : GravelHasTheLastWord.class.getMethods()) methods.put(m.getName(), m);
  }

  private int upTo(int n) { return random.nextInt(n + 1); }

  private int argument(char kind) {
    if (random.nextInt(60) == 0) {
      int[] odd = {-1, -2, 0, 100, 256, Integer.MAX_VALUE, Integer.MIN_VALUE, 40, 41, 6, 7, 8};
      return odd[random.nextInt(odd.length)];
    }
    switch (kind) {
      case 's': return upTo(3);
      case 'S': return upTo(4);
      case 'N': return upTo(8);
      case 'n': return upTo(6);
      case 'f': return upTo(Math.max(0, model.feet.size() - (random.nextInt(12) == 0 ? 0 : 1)));
      case 'k': return upTo(5);
      case 'd': return 2 + upTo(4);
      case 'c': return upTo(model.side * model.side - 1);
      case 'v': return upTo(9);
      case 'w': return upTo(2);
      case 'l': return 1 + upTo(98);
      case 'b': return random.nextInt(3) == 0 ? upTo(255) : "side 4;ear3 rk".charAt(upTo(13));
      case 'i': return upTo(model.side) - 1;
      case 'o': return upTo(model.side - 1);
      case 'm': return 1 + upTo(59);
      case 'x': return random.nextInt();
      default: return upTo(18);
    }
  }

  private boolean compare(String what, long got, long want) {
    told.append(what).append(" = ").append(want).append('\n');
    calls++;
    String name = what.substring(0, what.indexOf('('));
    if (want > -2) fine.merge(name, 1, Integer::sum);
    if (got == want) return true;
    System.out.println(told + "the last answered " + got + ", due is " + want);
    return false;
  }

  private boolean call(String name, int... v) throws Exception {
    Object[] boxed = new Object[v.length];
    for (int i = 0; i < v.length; i++) boxed[i] = v[i];
    int got = (Integer) methods.get(name).invoke(subject, boxed);
    return compare(name + "(" + java.util.Arrays.toString(v) + ")", got, model.answer(name, v));
  }

  private boolean set(int s, int i, long v) {
    return compare("set(" + s + ", " + i + ", " + v + ")", subject.set(s, i, v), model.set(s, i, v));
  }

  private boolean element(int s, int i) {
    return compare("element(" + s + ", " + i + ")", subject.element(s, i), model.element(s, i));
  }

  private boolean any() throws Exception {
    String entry = FACE[random.nextInt(FACE.length)];
    int gap = entry.indexOf(' ');
    String name = entry.substring(0, gap);
    // What lays all anew must be rare, that something grows to look at.
    boolean isRare = name.equals("side") || name.equals("row") || name.equals("sweep") || name.equals("drive");
    if (isRare && random.nextInt(4) != 0) return true;
    int[] v = new int[entry.length() - gap - 1];
    for (int i = 0; i < v.length; i++) v[i] = argument(entry.charAt(gap + 1 + i));
    return call(name, v);
  }

  /** A ROW of what is heard of some FEET, or of two, and what comes of it. */
  private boolean heard() throws Exception {
    if (model.feet.isEmpty()) return true;
    int s = upTo(3), f = argument('f') & 7, c = upTo(model.side - 1), d = upTo(model.side - 1), g = argument('f') & 7;
    f = Math.min(f, model.feet.size() - 1);
    g = Math.min(g, model.feet.size() - 1);
    boolean isTwo = random.nextInt(3) == 0;
    boolean isFine = call("row", s, upTo(3), model.side + upTo(2));
    for (int k = 0; k < model.side; k++) {
      int v = model.sound(f, c, model.rain).get(k) + (isTwo ? model.sound(g, d, model.rain).get(k) : 0);
      isFine &= set(s, k, random.nextInt(60) == 0 ? v + 1 : v);
    }
    if (isTwo) return isFine && call("two", s, c, d, 0) && call("two", s, c, d, 1);
    for (int what = 0; what < 4; what++) isFine = isFine && call("who", s, c, what);
    return isFine && call("meant", s, f, c, 0) && call("meant", s, f, c, 1) && call("meant", s, g, c, 0);
  }

  /** A told WAY, most often a right one. */
  private boolean gone() throws Exception {
    if (model.feet.isEmpty()) return true;
    int s = upTo(3), c = upTo(model.side - 1);
    boolean isFine = call("row", s, upTo(3), model.side + upTo(1));
    for (int k = 0; k < model.side; k++) {
      isFine = isFine && set(s, k, k * model.side + c + (random.nextInt(20) == 0 ? random.nextInt(5) - 2 : 0));
      c = Math.max(0, Math.min(model.side - 1, c + random.nextInt(3) - 1));
    }
    int n = random.nextInt(6) == 0 ? upTo(7) : model.side;
    int f = argument('f');
    return isFine && call("judge", s, n) && call("loud", s, n, f, 0) && call("loud", s, n, f, 1)
        && call("done", s, n, f);
  }

  private String statement() {
    String gap = random.nextInt(4) == 0 ? "  " : " ";
    switch (random.nextInt(9)) {
      case 0: return random.nextInt(4) == 0 ? "side" + gap + (2 + upTo(4)) : "rake";
      case 1: case 2: case 3: return "gravel" + gap + upTo(15) + gap + upTo(9);
      case 4: return "plank" + gap + upTo(15);
      case 5: return "rake";
      case 6: return "foot" + gap + upTo(5) + gap + upTo(9) + gap + (1 + upTo(98));
      case 7: return "rain" + gap + upTo(5);
      default: return "ear" + gap + (1 + upTo(11));
    }
  }

  private boolean told() throws Exception {
    StringBuilder text = new StringBuilder();
    int n = 1 + upTo(6);
    for (int i = 0; i < n; i++) text.append(i == 0 ? "" : random.nextBoolean() ? ";" : " ; ").append(statement());
    if (random.nextInt(3) == 0) {
      int at = random.nextInt(text.length());
      String odd = "; 019aegrAZ{`/:\u00e9\n";
      if (random.nextBoolean()) text.setCharAt(at, odd.charAt(random.nextInt(odd.length())));
      else if (random.nextBoolean()) text.deleteCharAt(at);
      else text.setLength(at);
    }
    boolean isFine = call("wipe");
    for (int i = 0; i < text.length(); i++) isFine = isFine && call("feed", text.charAt(i));
    return isFine && call("drive");
  }

  private boolean run() throws Exception {
    boolean isFine = true;
    int first = upTo(5);
    for (int f = 0; f < first; f++) isFine = isFine && call("feet", upTo(5), upTo(9), 1 + upTo(98));
    if (random.nextBoolean()) isFine = isFine && call("side", 2 + upTo(4));
    while (isFine && calls < CALLS) {
      int pick = random.nextInt(40);
      if (pick == 0) isFine = heard();
      else if (pick == 1) isFine = gone();
      else if (pick == 2) isFine = told();
      else if (pick == 3) isFine = set(upTo(3), argument('n'), random.nextLong());
      else if (pick == 4) isFine = element(argument('s'), argument('n'));
      else if (pick < 12) isFine = call("gravel", argument('c'), argument('v'));
      else isFine = any();
    }
    for (int what = 0; what < 18; what++) isFine = isFine && call("status", what);
    return isFine;
  }

  public static void main(String[] args) throws Exception {
    int runs = args.length > 0 ? Integer.parseInt(args[0]) : RUNS;
    for (long number = 0; number < runs; number++) {
      if (!new ModelTest(number).run()) {
        System.out.println("run " + number + " differs from the model");
        System.exit(1);
      }
    }
    for (String entry : FACE) {
      String name = entry.substring(0, entry.indexOf(' '));
      if (fine.getOrDefault(name, 0) < 5) {
        System.out.println(name + " was hardly answered at all");
        System.exit(1);
      }
    }
    System.out.println(runs + " runs are as the model has them");
  }
}
