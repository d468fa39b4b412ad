import java.lang.reflect.Method;
import java.lang.reflect.Modifier;
import java.math.BigInteger;
import java.util.ArrayList;
import java.util.Collections;
import java.util.HashMap;
import java.util.LinkedHashSet;
import java.util.List;
import java.util.Map;
import java.util.Set;
import java.util.TreeSet;

/** Many runs of calls on NetLoft and on a plain model of the document, made of lists of KNOTS and SIDES, side by side. */
public final class PlainModelTest {
  private static final int RUNS = 3000;
  private static final int CALLS = 500;
  private static final int LONG_WAYS = 40;
  private static final int DEEP_LOADS = 40;
  private static final int CALLS_ON_SCENE = 480;
  private static final int[] WIDEST = {Integer.MIN_VALUE, Integer.MIN_VALUE + 9, -1, 0, 1, 2, 3, 11, Integer.MAX_VALUE};
  /** Two PANELS, a third one of both, a HOLE, a WAY, a TAPER and a seam at hand. */
  private static final Object[][] SCENE = {{"panel", 2, 20, 5}, {"kind", 0, 1, 1}, {"row", 0}, {"row", 0}, {"pull", 0, 1, 9},
    {"panel", 2, 30, 4}, {"row", 1}, {"sew", 0, 1}, {"tear", 1, 1}, {"taper", 12, 8, 11}, {"part", 100, 60},
    {"cut", 2, 1, 0}, {"side", 0, 1, 1, 0, false}, {"mend", 0, 1, 1}, {"side", 0, 2, 1, 0, false}, {"needle", 0, 2, 2, true},
    {"hole", 0, 2, 1}};
  private static final Map<String, Method> ON_LOFT = new HashMap<>();
  private static final Map<String, Method> ON_MODEL = new HashMap<>();

  /** How often each call is made and from what its arguments come: p panel, r row, k place, s, n .. as pick() tells. */
  private static final String[][] BUILDING = {
    {"panel", "wBS", "3"}, {"row", "p", "8"}, {"kind", "pkK", "14"}, {"shape", "pneK", "3"}, {"sew", "pp", "4"},
    {"tear", "pr", "1"}, {"hang", "pab", "3"}, {"parts", "m", "1"}, {"part", "iv", "12"}, {"pull", "pkv", "20"},
    {"needle", "prko", "1"}};
  private static final String[][] TEARING = {
    {"side", "prkso", "20"}, {"cut", "prk", "4"}, {"needle", "prko", "1"}, {"mend", "prk", "8"}, {"hole", "prk", "4"},
    {"tear", "pr", "1"}, {"row", "p", "1"}, {"kind", "pkK", "1"}, {"pull", "pkv", "1"}};
  private static final String[][] ASKING = {
    {"ahead", "wneK", "1"}, {"meshes", "pr", "3"}, {"of", "prkW", "12"}, {"hole", "prk", "3"}, {"edge", "hH", "8"},
    {"way", "h", "6"}, {"taper", "TTd", "2"}, {"cycle", "x", "2"}, {"match", "k", "2"}, {"open", "p", "1"},
    {"slips", "pg", "4"}, {"load", "prkx", "12"}, {"sum", "pxx", "4"}, {"weak", "p", "3"}, {"count", "x", "2"},
    {"panelOf", "px", "6"}};

  private static long seed;

  public static void main(String[] args) throws Exception {
    for (Method m : NetLoft.class.getMethods()) ON_LOFT.put(m.getName(), m);
    for (Method m : Model.class.getDeclaredMethods()) ON_MODEL.put(m.getName(), m);
    int wrong = 0;
    for (int run = 0; run < RUNS && wrong < 5; run++) wrong += runOnce(run);
    wrong += widestArguments();
    wrong += longestWay();
    wrong += longestWayOfGains();
    for (int run = 0; run < LONG_WAYS && wrong < 5; run++) wrong += longWay(run);
    for (int run = 0; run < DEEP_LOADS && wrong < 5; run++) wrong += deepLoads(run);
    System.out.println(wrong == 0 ? "all runs go with the model" : wrong + " runs differ from the model");
    if (wrong != 0) System.exit(1);
  }

  private static int runOnce(int run) throws Exception {
    seed = run * 7919L + 17;
    NetLoft loft = new NetLoft();
    Model model = new Model();
    StringBuilder told = new StringBuilder();
    boolean small = run % 3 == 0;
    for (int call = 0; call < CALLS; call++) {
      String[][] from = call < 100 ? BUILDING : below(3) == 0 ? TEARING : below(12) == 0 ? BUILDING : ASKING;
      String[] chosen = choose(from);
      Object[] arguments = new Object[chosen[1].length()];
      for (int i = 0; i < arguments.length; i++) arguments[i] = pick(chosen[1].charAt(i), model, small, arguments, i);
      String got = ON_LOFT.get(chosen[0]).invoke(loft, arguments).toString();
      String want = ON_MODEL.get(chosen[0]).invoke(model, arguments).toString();
      told.append(chosen[0]).append(java.util.Arrays.toString(arguments)).append(" -> ").append(got).append('\n');
      if (!got.equals(want)) {
        System.out.println("run " + run + ":\n" + told + "due is " + want);
        return 1;
      }
    }
    return 0;
  }

  /** Each call with all that its arguments can be at the ends of an int and about the bounds of a small PANEL. */
  private static int widestArguments() throws Exception {
    int wrong = 0;
    for (String name : new TreeSet<>(ON_MODEL.keySet())) {
      Method onModel = ON_MODEL.get(name);
      if (!Modifier.isPublic(onModel.getModifiers())) continue;
      Class<?>[] types = onModel.getParameterTypes();
      int all = 1;
      for (Class<?> type : types) all *= type == boolean.class ? 2 : WIDEST.length;
      for (int from = 0; from < all && wrong < 5; from += CALLS_ON_SCENE) {
        wrong += callsOnScene(name, types, from, Math.min(all, from + CALLS_ON_SCENE));
      }
    }
    return wrong;
  }

  private static int callsOnScene(String name, Class<?>[] types, int from, int end) throws Exception {
    NetLoft loft = new NetLoft();
    Model model = new Model();
    for (Object[] call : SCENE) {
      Object[] arguments = java.util.Arrays.copyOfRange(call, 1, call.length);
      ON_LOFT.get(call[0]).invoke(loft, arguments);
      ON_MODEL.get(call[0]).invoke(model, arguments);
    }
    for (int which = from; which < end; which++) {
      Object[] arguments = new Object[types.length];
      int rest = which;
      for (int i = 0; i < types.length; i++) {
        boolean flag = types[i] == boolean.class;
        int ways = flag ? 2 : WIDEST.length;
        arguments[i] = flag ? (Object) (rest % 2 == 0) : (Object) WIDEST[rest % ways];
        rest /= ways;
      }
      String got = ON_LOFT.get(name).invoke(loft, arguments).toString();
      String want = ON_MODEL.get(name).invoke(model, arguments).toString();
      if (!got.equals(want)) {
        System.out.println(name + java.util.Arrays.toString(arguments) + " answered " + got + ", due is " + want);
        return 1;
      }
    }
    return 0;
  }

  /** Toggles SIDES along a walk at random over a large PANEL, so that each HOLE has 0 or 2 ODD ones; mends them all. */
  private static int longWay(int run) {
    seed = run * 104729L + 5;
    NetLoft loft = new NetLoft();
    Model model = new Model();
    buildDeep(loft, model, between(2, 20));
    walkAtRandom(loft, model.pan(0), between(1, 1500));
    return mendAll(run, loft, model);
  }

  /** All SIDES of 20 ROWS of 24 GONE, but for those at the edges that let just two KNOTS be ODD. */
  private static int longestWay() {
    NetLoft loft = new NetLoft();
    Model model = new Model();
    loft.panel(24, 1, 1);
    model.panel(24, 1, 1);
    for (int r = 1; r < 20; r++) {
      loft.row(0);
      model.row(0);
    }
    for (int r = 1; r < 20; r += 2) {
      for (int k = 0; k < 24; k++) {
        loft.cut(0, r, k);
        model.cut(0, r, k);
      }
    }
    for (int r = 1; r < 19; r++) {
      int k = r % 2 == 1 ? 0 : 23;
      loft.side(0, r, k, 0, true);
      model.side(0, r, k, 0, true);
    }
    if (loft.panelOf(0, 8) == 875) return mendAll(-1, loft, model);
    System.out.println("longest way: GONE are " + loft.panelOf(0, 8));
    return 1;
  }

  /** GAINS and TAKES by turns make the most SIDES, 58 or 59 a ROW; nearly all of them are GONE, in one HOLE of one TWINE. */
  private static int longestWayOfGains() {
    NetLoft loft = new NetLoft();
    Model model = new Model();
    loft.panel(24, 1, 1);
    model.panel(24, 1, 1);
    for (int r = 1; r < 20; r++) {
      for (int k = 0; k < 24; k++) {
        int kind = r % 2 == 1 ? 1 + k % 2 : k == 0 || k == 23 ? 0 : 2 - k % 2;
        loft.kind(0, k, kind);
        model.kind(0, k, kind);
      }
      loft.row(0);
      model.row(0);
    }
    Pan pan = model.pan(0);
    for (Knot knot : pan.all()) {
      for (Side side : knot.own) toggle(loft, pan, side);
    }
    List<Knot> odd = pan.all();
    odd.removeIf(knot -> pan.goneAt(knot) % 2 == 0);
    while (odd.size() > 2) togglePath(loft, pan, odd);
    System.out.println("the longest way goes along " + loft.panelOf(0, 8) + " sides");
    return loft.panelOf(0, 8) > 1000 && loft.panelOf(0, 8) == pan.goneSides().size() ? mendAll(-2, loft, model) : 1;
  }

  private static void toggle(NetLoft loft, Pan pan, Side side) {
    side.gone = !side.gone;
    int code = pan.code(side.lower);
    loft.side(0, code / 100, code % 100, side.lower.own.indexOf(side), !side.gone);
  }

  /** Toggles the SIDES from the first ODD one to the nearest other one: neither is ODD then, and no other becomes so. */
  private static void togglePath(NetLoft loft, Pan pan, List<Knot> odd) {
    Knot from = odd.remove(0);
    Map<Knot, Side> by = new HashMap<>();
    List<Knot> queue = new ArrayList<>(List.of(from));
    for (int i = 0; i < queue.size(); i++) {
      Knot at = queue.get(i);
      if (odd.remove(at)) {
        for (Knot back = at; back != from; back = by.get(back).other(back)) toggle(loft, pan, by.get(back));
        return;
      }
      for (Side side : pan.sidesAt(at)) {
        Knot next = side.other(at);
        if (next != from && by.putIfAbsent(next, side) == null) queue.add(next);
      }
    }
  }

  private static void buildDeep(NetLoft loft, Model model, int rows) {
    int w = between(2, 24);
    int strength = between(1, 150);
    loft.panel(w, 1, strength);
    model.panel(w, 1, strength);
    while (model.pan(0).rows.size() < rows) {
      for (int k = 0; k < model.pan(0).last().size(); k++) {
        int kind = k % 2 == 0 ? below(2) : below(3);
        loft.kind(0, k, kind);
        model.kind(0, k, kind);
      }
      loft.row(0);
      model.row(0);
    }
  }

  /** All LOADS of a PANEL of 20 ROWS, with PULLS as they come and some SIDES GONE. */
  private static int deepLoads(int run) {
    seed = run * 15485863L + 3;
    NetLoft loft = new NetLoft();
    Model model = new Model();
    buildDeep(loft, model, 20);
    Pan pan = model.pan(0);
    for (int k = 0; k < pan.rows.get(0).size(); k++) {
      int v = below(3) == 0 ? 0 : run == 0 ? 100 : between(1, 100);
      loft.pull(0, k, v);
      model.pull(0, k, v);
    }
    if (run % 2 == 1) walkAtRandom(loft, pan, between(1, 100));
    Part[] lostAndFoot = new Part[2];
    Map<Knot, Part> loads = Model.loads(pan, lostAndFoot);
    boolean alike = loft.weak(0) == model.weak(0);
    for (int what = 0; what < 2; what++) {
      alike &= loft.sum(0, 0, what) == lostAndFoot[0].term(what) && loft.sum(0, 1, what) == lostAndFoot[1].term(what);
      for (Knot knot : pan.all()) {
        alike &= loft.load(0, pan.code(knot) / 100, pan.code(knot) % 100, what) == loads.get(knot).term(what);
      }
    }
    if (!alike) System.out.println("deep loads " + run + ": a LOAD, a sum or WEAK differs");
    return alike ? 0 : 1;
  }

  private static void walkAtRandom(NetLoft loft, Pan pan, int steps) {
    Knot at = pan.all().get(below(pan.all().size()));
    for (int step = 0; step < steps; step++) {
      List<Side> sides = pan.sidesAt(at);
      if (sides.isEmpty()) return;
      Side side = sides.get(below(sides.size()));
      toggle(loft, pan, side);
      at = side.other(at);
    }
  }

  private static int mendAll(int run, NetLoft loft, Model model) {
    for (int r = 0; r < model.pan(0).rows.size(); r++) {
      for (int k = 0; k < model.pan(0).rows.get(r).size(); k++) {
        int got = loft.mend(0, r, k);
        int want = model.mend(0, r, k);
        boolean alike = got == want && loft.count(2) == model.count(2);
        for (int i = 0; i <= model.way.size(); i++) alike &= loft.way(i) == model.way(i);
        if (!alike) {
          System.out.println("long way " + run + ": mend(0, " + r + ", " + k + ") goes another way than " + model.way);
          return 1;
        }
      }
    }
    if (loft.panelOf(0, 8) == 0) return 0;
    System.out.println("long way " + run + ": SIDES are GONE after all is mended");
    return 1;
  }

  private static int below(int n) {
    seed = seed * 6364136223846793005L + 1442695040888963407L;
    return (int) Math.floorMod(seed >> 33, (long) n);
  }

  private static String[] choose(String[][] from) {
    int all = 0;
    for (String[] one : from) all += Integer.parseInt(one[2]);
    int at = below(all);
    for (String[] one : from) {
      at -= Integer.parseInt(one[2]);
      if (at < 0) return one;
    }
    return from[0];
  }

  private static int between(int least, int most) {
    return least + below(most - least + 1);
  }

  private static Object pick(char letter, Model model, boolean small, Object[] so, int i) {
    if (letter == 'o') return below(4) == 0;
    if (below(60) == 0) return new int[] {Integer.MIN_VALUE, Integer.MAX_VALUE, -1, -2, 0, 25, 101, 1001}[below(8)];
    switch (letter) {
      case 'p': return model.panels.isEmpty() ? 0 : below(40) == 0 ? model.panels.size() : below(model.panels.size());
      case 'r': return between(0, Math.max(0, rowsOf(model, so) - (below(30) == 0 ? 0 : 1)));
      case 'k': return below(placesOf(model, so, i) + (below(20) == 0 ? 1 : 0));
      case 'w': return small ? between(1, 4) : between(1, 24);
      case 'B': return between(1, 1000);
      case 'S': return below(4) == 0 ? between(1, 1000000) : between(1, 100);
      case 'K': return below(20) == 0 ? 3 : between(0, 2);
      case 'n': return between(1, below(5) == 0 ? 21 : 4);
      case 'e': return between(1, below(10) == 0 ? 25 : 6);
      case 'a': return below(8) == 0 ? between(1, 1001) : between(1, 4);
      case 'b': return below(8) == 0 ? between(1, 1001) : between(1, 4);
      case 'm': return below(2) == 0 ? 101 : between(-1, 102);
      case 'i': return below(8) == 0 ? between(0, 101) : new int[] {25, 33, 50, 66, 75, 100}[below(6)];
      case 'v': return between(0, 101);
      case 's': return below(3);
      case 'W': return below(15);
      case 'h': return below(5) == 0 ? below(500) : below(8);
      case 'H': return below(6);
      case 'T': return between(1, 60);
      case 'd': return between(1, 40);
      case 'x': return below(30) == 0 ? between(-1, 10) : i == 1 ? below(10) : below(3);
      case 'g': return below(4) == 0 ? 1 : between(0, 2000);
      default: throw new IllegalStateException();
    }
  }

  private static Pan panOf(Model model, Object[] so) {
    return so.length > 0 && so[0] instanceof Integer p && p >= 0 && p < model.panels.size() ? model.panels.get(p) : null;
  }

  private static int rowsOf(Model model, Object[] so) {
    Pan pan = panOf(model, so);
    return pan == null ? 3 : pan.rows.size();
  }

  private static int placesOf(Model model, Object[] so, int i) {
    Pan pan = panOf(model, so);
    if (pan == null) return 3;
    int r = i == 2 && so[1] instanceof Integer given ? given : pan.rows.size() - 1;
    if (r < 0 || r >= pan.rows.size() || pan.rows.get(r).isEmpty()) return 3;
    return pan.rows.get(r).size();
  }

  static final class Knot {
    int kind;
    int gives = 1;
    boolean needle;
    int pull;
    List<Side> own = new ArrayList<>();
  }

  static final class Side {
    final Knot lower;
    final Knot upper;
    boolean gone;

    Side(Knot lower, Knot upper) {
      this.lower = lower;
      this.upper = upper;
    }

    Knot other(Knot one) {
      return one == lower ? upper : lower;
    }
  }

  /** A PANEL: a MISSING ROW is an empty list. */
  static final class Pan {
    int bar;
    int strength;
    int a = 1;
    int b = 1;
    List<List<Knot>> rows = new ArrayList<>();

    List<Knot> last() {
      return rows.get(rows.size() - 1);
    }

    Knot knot(int r, int k) {
      return r < 0 || r >= rows.size() || k < 0 || k >= rows.get(r).size() ? null : rows.get(r).get(k);
    }

    List<Knot> all() {
      List<Knot> all = new ArrayList<>();
      for (List<Knot> row : rows) all.addAll(row);
      return all;
    }

    int code(Knot knot) {
      for (int r = 0; r < rows.size(); r++) {
        if (rows.get(r).contains(knot)) return 100 * r + rows.get(r).indexOf(knot);
      }
      throw new IllegalStateException();
    }

    List<Side> hangingIn(Knot upper) {
      List<Side> found = new ArrayList<>();
      for (Knot knot : all()) {
        for (Side side : knot.own) if (side.upper == upper) found.add(side);
      }
      return found;
    }

    List<Side> sidesAt(Knot knot) {
      List<Side> sides = new ArrayList<>(knot.own);
      sides.addAll(hangingIn(knot));
      return sides;
    }

    int goneAt(Knot knot) {
      int gone = 0;
      for (Side side : sidesAt(knot)) gone += side.gone ? 1 : 0;
      return gone;
    }

    Set<Knot> holeOf(Knot knot) {
      Set<Knot> reached = new LinkedHashSet<>();
      if (goneAt(knot) == 0) return reached;
      reached.add(knot);
      boolean grown = true;
      while (grown) {
        grown = false;
        for (Side side : goneSides()) {
          if (reached.contains(side.lower) != reached.contains(side.upper)) {
            reached.add(side.lower);
            reached.add(side.upper);
            grown = true;
          }
        }
      }
      return reached;
    }

    List<Side> goneSides() {
      List<Side> gone = new ArrayList<>();
      for (Knot knot : all()) {
        for (Side side : knot.own) if (side.gone) gone.add(side);
      }
      return gone;
    }
  }

  static final class Part {
    static final Part ZERO = new Part(BigInteger.ZERO, BigInteger.ONE);
    final BigInteger up;
    final BigInteger down;

    Part(BigInteger up, BigInteger down) {
      BigInteger common = up.gcd(down);
      this.up = up.divide(common);
      this.down = down.divide(common);
    }

    Part plus(Part o) {
      return new Part(up.multiply(o.down).add(o.up.multiply(down)), down.multiply(o.down));
    }

    Part over(int n) {
      return new Part(up, down.multiply(BigInteger.valueOf(n)));
    }

    long term(int what) {
      return what == 0 ? up.longValueExact() : what == 1 ? down.longValueExact() : -1;
    }
  }

  static final class Model {
    final List<Pan> panels = new ArrayList<>();
    List<Integer> parts = new ArrayList<>(Collections.nCopies(101, 0));
    List<Integer> holeKnots;
    List<Boolean> holeOdd;
    int holeGone;
    List<Integer> way = new ArrayList<>();
    int[] cycle;
    int[] took = {};

    private Pan pan(int p) {
      return p < 0 || p >= panels.size() ? null : panels.get(p);
    }

    private Knot knot(int p, int r, int k) {
      return pan(p) == null ? null : pan(p).knot(r, k);
    }

    public int panel(int w, int bar, int strength) {
      if (panels.size() == 12 || w < 1 || w > 24 || bar < 1 || bar > 1000 || strength < 1 || strength > 1000000) return -1;
      Pan pan = new Pan();
      pan.bar = bar;
      pan.strength = strength;
      pan.rows.add(plainRow(w));
      panels.add(pan);
      return panels.size() - 1;
    }

    private static List<Knot> plainRow(int w) {
      List<Knot> row = new ArrayList<>();
      for (int i = 0; i < w; i++) row.add(new Knot());
      return row;
    }

    public int row(int p) {
      Pan pan = pan(p);
      if (pan == null || pan.rows.size() == 20 || pan.last().isEmpty()) return -1;
      int places = 0;
      for (Knot knot : pan.last()) places += knot.gives;
      if (places > 24 || places == 0) return -1;
      List<Knot> hung = plainRow(places);
      hangBelow(pan.last(), hung);
      pan.rows.add(hung);
      return places;
    }

    private static void hangBelow(List<Knot> above, List<Knot> below) {
      List<Integer> firsts = new ArrayList<>();
      for (int i = 0; i < above.size(); i++) {
        for (int j = 0; j < above.get(i).gives; j++) firsts.add(i);
      }
      for (int k = 0; k < below.size(); k++) {
        int first = firsts.get(k);
        boolean last = k == firsts.lastIndexOf(first);
        below.get(k).own = new ArrayList<>();
        below.get(k).own.add(new Side(below.get(k), above.get(first)));
        int at = first + 1;
        while (at < above.size() && above.get(at).gives == 0) {
          below.get(k).own.add(new Side(below.get(k), above.get(at)));
          at++;
        }
        if (last && at < above.size()) below.get(k).own.add(new Side(below.get(k), above.get(at)));
      }
    }

    public boolean kind(int p, int k, int kind) {
      Pan pan = pan(p);
      if (pan == null || kind < 0 || kind > 2 || k < 0 || k >= pan.last().size() || kind == 2 && k == 0) return false;
      pan.last().get(k).kind = kind;
      pan.last().get(k).gives = new int[] {1, 2, 0}[kind];
      return true;
    }

    public int shape(int p, int n, int e, int kind) {
      Pan pan = pan(p);
      if (pan == null || n < 1 || n > 19 || e < 1 || e > 24 || kind < 1 || kind > 2 || pan.last().isEmpty()) return -1;
      int had = pan.rows.size();
      List<Integer> kinds = new ArrayList<>();
      for (Knot knot : pan.last()) kinds.add(knot.kind);
      int places = -1;
      for (int i = 0; i < n; i++) {
        for (int k = 0; k < pan.last().size(); k++) kind(p, k, 0);
        for (int k = e - 1; k < pan.last().size(); k += e) kind(p, k, kind);
        places = row(p);
        if (places < 0) break;
      }
      if (places < 0) {
        while (pan.rows.size() > had) pan.rows.remove(pan.rows.size() - 1);
        for (int k = 0; k < kinds.size(); k++) kind(p, k, kinds.get(k));
      }
      return places;
    }

    public long ahead(int w, int n, int e, int kind) {
      if (w < 1 || w > 1000 || n < 1 || n > 1000 || e < 1 || e > 24 || kind < 1 || kind > 2) return -1;
      BigInteger places = BigInteger.valueOf(w);
      for (int i = 0; i < n; i++) {
        BigInteger turned = places.divide(BigInteger.valueOf(e));
        if (kind == 2 && e == 1) turned = turned.subtract(BigInteger.ONE);
        places = kind == 1 ? places.add(turned) : places.subtract(turned);
        if (places.compareTo(BigInteger.TEN.pow(12)) > 0) return -1;
      }
      return places.longValueExact();
    }

    public int meshes(int p, int r) {
      return pan(p) == null || r < 0 || r >= pan(p).rows.size() ? -1 : pan(p).rows.get(r).size();
    }

    public int of(int p, int r, int k, int what) {
      Knot knot = knot(p, r, k);
      if (knot == null) return -1;
      int gone = 0;
      for (Side side : knot.own) gone += side.gone ? 1 : 0;
      if (what == 0) return knot.kind;
      if (what == 1) return knot.gives;
      if (what == 2) return knot.own.size();
      if (what == 3) return gone;
      if (what == 4) return knot.own.isEmpty() ? -1 : pan(p).code(knot.own.get(0).upper) % 100;
      if (what == 5) return knot.needle ? 1 : 0;
      if (what == 6) return pan(p).goneAt(knot);
      if (what < 10 || what - 10 >= knot.own.size()) return -1;
      return pan(p).code(knot.own.get(what - 10).upper) % 100;
    }

    public boolean side(int p, int r, int k, int s, boolean on) {
      Knot knot = knot(p, r, k);
      if (knot == null || s < 0 || s >= knot.own.size()) return false;
      knot.own.get(s).gone = !on;
      return true;
    }

    public int cut(int p, int r, int k) {
      Knot knot = knot(p, r, k);
      if (knot == null) return -1;
      int whole = 0;
      for (Side side : pan(p).sidesAt(knot)) {
        whole += side.gone ? 0 : 1;
        side.gone = true;
      }
      return whole;
    }

    public boolean tear(int p, int r) {
      if (pan(p) == null || r < 0 || r >= pan(p).rows.size() || pan(p).rows.get(r).isEmpty()) return false;
      pan(p).rows.set(r, new ArrayList<>());
      if (r + 1 < pan(p).rows.size()) for (Knot knot : pan(p).rows.get(r + 1)) knot.own.clear();
      return true;
    }

    public boolean needle(int p, int r, int k, boolean on) {
      if (knot(p, r, k) == null) return false;
      knot(p, r, k).needle = on;
      return true;
    }

    private static List<Knot> ordered(Pan pan, Set<Knot> knots) {
      List<Knot> ordered = pan.all();
      ordered.retainAll(knots);
      return ordered;
    }

    public int hole(int p, int r, int k) {
      Knot knot = knot(p, r, k);
      if (knot == null) return -1;
      holeKnots = new ArrayList<>();
      holeOdd = new ArrayList<>();
      Set<Knot> hole = pan(p).holeOf(knot);
      for (Knot one : ordered(pan(p), hole)) {
        holeKnots.add(pan(p).code(one));
        holeOdd.add(pan(p).goneAt(one) % 2 == 1);
      }
      holeGone = 0;
      for (Side side : pan(p).goneSides()) holeGone += hole.contains(side.lower) ? 1 : 0;
      return hole.size();
    }

    public int edge(int i, int what) {
      if (holeKnots == null || what < 0 || what > 4) return -1;
      if (what < 2 && (i < 0 || i >= holeKnots.size())) return -1;
      if (what == 0) return holeKnots.get(i);
      if (what == 1) return holeOdd.get(i) ? 1 : 0;
      if (what == 2) return holeGone;
      int odd = Collections.frequency(holeOdd, true);
      if (what == 3) return odd;
      return holeKnots.isEmpty() ? 0 : odd == 0 ? 1 : odd / 2;
    }

    public int mend(int p, int r, int k) {
      Knot knot = knot(p, r, k);
      if (knot == null) return -1;
      Pan pan = pan(p);
      List<Knot> hole = ordered(pan, pan.holeOf(knot));
      if (hole.isEmpty()) return 0;
      List<Knot> odd = new ArrayList<>();
      for (Knot one : hole) if (pan.goneAt(one) % 2 == 1) odd.add(one);
      if (odd.size() > 2) return odd.size() / 2;
      for (Knot one : hole) if (one.needle) return -2;
      List<Side> left = new ArrayList<>();
      for (Side side : pan.goneSides()) if (hole.contains(side.lower)) left.add(side);
      List<Knot> found = new ArrayList<>();
      found.add(odd.isEmpty() ? hole.get(0) : odd.get(0));
      goOn(pan, hole, left, found, left.size() <= 12);
      way = new ArrayList<>();
      for (Knot one : found) way.add(pan.code(one));
      for (Knot one : hole) for (Side side : pan.sidesAt(one)) side.gone = false;
      return 1;
    }

    /** Tries the next KNOTS in their order; the first whole way is the first of all. A large hole is cut off early. */
    private static boolean goOn(Pan pan, List<Knot> order, List<Side> left, List<Knot> found, boolean plain) {
      if (left.isEmpty()) return true;
      Knot at = found.get(found.size() - 1);
      if (!plain && !allReached(at, left)) return false;
      for (Knot next : order) {
        Side by = null;
        for (Side side : left) {
          if (side.lower == at && side.upper == next || side.upper == at && side.lower == next) by = side;
        }
        if (by == null) continue;
        left.remove(by);
        found.add(next);
        if (goOn(pan, order, left, found, plain)) return true;
        found.remove(found.size() - 1);
        left.add(by);
      }
      return false;
    }

    private static boolean allReached(Knot from, List<Side> left) {
      Set<Knot> reached = new LinkedHashSet<>();
      reached.add(from);
      boolean grown = true;
      while (grown) {
        grown = false;
        for (Side side : left) {
          if (reached.contains(side.lower)) grown |= reached.add(side.upper);
          if (reached.contains(side.upper)) grown |= reached.add(side.lower);
        }
      }
      for (Side side : left) if (!reached.contains(side.lower)) return false;
      return true;
    }

    public int way(int i) {
      return i < 0 || i >= way.size() ? -1 : way.get(i);
    }

    public int taper(int w, int v, int d) {
      if (w < 1 || w > 1000 || v < 1 || v > w || d < 1 || d > 400) return -1;
      for (int l = 1; l <= d; l++) {
        for (int t = 0; t <= w - v; t++) {
          int taken = 0;
          for (int row = 0; row < d; row++) {
            int k = row % l;
            taken += (k + 1) * t / l - k * t / l;
          }
          if (taken == w - v) {
            cycle = new int[] {l, t, d / l, d % l};
            return l;
          }
        }
      }
      throw new IllegalStateException();
    }

    public int cycle(int what) {
      return cycle == null || what < 0 || what > 3 ? -1 : cycle[what];
    }

    public int sew(int p, int q) {
      Pan first = pan(p);
      Pan second = pan(q);
      if (first == null || second == null || p == q || panels.size() == 12) return -1;
      if (first.rows.size() + second.rows.size() > 20) return -1;
      int a = first.last().size();
      int b = second.rows.get(0).size();
      if (a == 0 || b == 0 || a > 2 * b || b > 2 * a) return -1;
      Pan sewn = new Pan();
      sewn.bar = first.bar;
      sewn.strength = first.strength;
      sewn.a = first.a;
      sewn.b = first.b;
      copyRows(first, sewn);
      copyRows(second, sewn);
      List<Knot> upper = sewn.rows.get(first.rows.size() - 1);
      int n = Math.min(a, b);
      int m = Math.max(a, b);
      took = new int[n];
      for (int i = 0; i < n; i++) took[i] = (i + 1) * m / n - i * m / n;
      List<Integer> gives = new ArrayList<>();
      for (int i = 0; i < n; i++) {
        if (a <= b) gives.add(took[i]);
        for (int j = 0; a > b && j < took[i]; j++) gives.add(j == 0 ? 1 : 0);
      }
      for (int k = 0; k < a; k++) {
        upper.get(k).kind = 3;
        upper.get(k).gives = gives.get(k);
      }
      hangBelow(upper, sewn.rows.get(first.rows.size()));
      panels.add(sewn);
      return panels.size() - 1;
    }

    private static void copyRows(Pan from, Pan to) {
      Map<Knot, Knot> copies = new HashMap<>();
      for (List<Knot> row : from.rows) {
        List<Knot> copiedRow = new ArrayList<>();
        for (Knot knot : row) {
          Knot copy = new Knot();
          copy.kind = knot.kind;
          copy.gives = knot.gives;
          copy.needle = knot.needle;
          copies.put(knot, copy);
          for (Side side : knot.own) {
            Side copiedSide = new Side(copy, copies.get(side.upper));
            copiedSide.gone = side.gone;
            copy.own.add(copiedSide);
          }
          copiedRow.add(copy);
        }
        to.rows.add(copiedRow);
      }
    }

    public int match(int i) {
      return i < 0 || i >= took.length ? -1 : took[i];
    }

    public boolean hang(int p, int a, int b) {
      if (pan(p) == null || b < 1 || b > 1000 || a < 1 || a > b) return false;
      pan(p).a = a;
      pan(p).b = b;
      return true;
    }

    public boolean parts(int n) {
      if (n < -1 || n > 101) return false;
      parts = n == -1 ? null : new ArrayList<>(Collections.nCopies(n, 0));
      return true;
    }

    public boolean part(int i, int v) {
      if (parts == null || i < 0 || i >= parts.size() || v < 0 || v > 100) return false;
      parts.set(i, v);
      return true;
    }

    public int open(int p) {
      if (pan(p) == null) return -1;
      int i = 100 * pan(p).a / pan(p).b;
      return parts == null || i >= parts.size() ? -2 : parts.get(i);
    }

    public int slips(int p, int g) {
      if (g < 0 || g > 1000000) return -1;
      int open = open(p);
      return open < 0 ? open : 100L * g < 4L * pan(p).bar * open ? 1 : 0;
    }

    public boolean pull(int p, int k, int v) {
      if (knot(p, 0, k) == null || v < 0 || v > 100) return false;
      knot(p, 0, k).pull = v;
      return true;
    }

    static Map<Knot, Part> loads(Pan pan, Part[] lostAndFoot) {
      Map<Knot, Part> loads = new HashMap<>();
      lostAndFoot[0] = Part.ZERO;
      lostAndFoot[1] = Part.ZERO;
      for (Knot knot : pan.all()) loads.put(knot, new Part(BigInteger.valueOf(knot.pull), BigInteger.ONE));
      for (int r = 0; r < pan.rows.size(); r++) {
        for (Knot knot : pan.rows.get(r)) {
          List<Side> whole = pan.hangingIn(knot);
          whole.removeIf(side -> side.gone);
          for (Side side : whole) {
            loads.put(side.lower, loads.get(side.lower).plus(loads.get(knot).over(whole.size())));
          }
          int into = r == pan.rows.size() - 1 ? 1 : 0;
          if (whole.isEmpty()) lostAndFoot[into] = lostAndFoot[into].plus(loads.get(knot));
        }
      }
      return loads;
    }

    public long load(int p, int r, int k, int what) {
      return knot(p, r, k) == null ? -1 : loads(pan(p), new Part[2]).get(knot(p, r, k)).term(what);
    }

    public long sum(int p, int at, int what) {
      if (pan(p) == null || at < 0 || at > 1) return -1;
      Part[] lostAndFoot = new Part[2];
      loads(pan(p), lostAndFoot);
      return lostAndFoot[at].term(what);
    }

    public int weak(int p) {
      if (pan(p) == null) return -1;
      Map<Knot, Part> loads = loads(pan(p), new Part[2]);
      for (Knot knot : pan(p).all()) {
        Part load = loads.get(knot);
        if (load.up.compareTo(load.down.multiply(BigInteger.valueOf(pan(p).strength))) > 0) return pan(p).code(knot);
      }
      return -1;
    }

    public int count(int what) {
      if (what == 0) return panels.size();
      if (what == 1) return parts == null ? -1 : parts.size();
      return what == 2 ? way.size() : -1;
    }

    public int panelOf(int p, int what) {
      Pan pan = pan(p);
      if (pan == null) return -1;
      int sides = 0;
      int needles = 0;
      for (Knot knot : pan.all()) {
        sides += knot.own.size();
        needles += knot.needle ? 1 : 0;
      }
      int[] told = {pan.rows.size(), pan.bar, pan.strength, pan.a, pan.b, pan.all().size(), needles, sides,
        pan.goneSides().size()};
      return what < 0 || what > 8 ? -1 : told[what];
    }
  }
}
