import java.util.function.Consumer;

/** Each sentence of the promises 1 to 31 that names a boundary case has a test of its own here, on a new object. */
public final class PromiseBoundaryTest {
  private static final int NONE = NetLoft.NONE;
  private static final int LOW = Integer.MIN_VALUE;
  private static final int HIGH = Integer.MAX_VALUE;
  private static final int GAIN = 1;
  private static final int TAKE = 2;
  private static int wrong = 0;
  private static int sentences = 0;
  private static String sentence = "";

  public static void main(String[] args) {
    newObject();
    panel();
    row();
    kind();
    shape();
    shapeThatIsRefusedLate();
    ahead();
    meshes();
    of();
    ofSides();
    side();
    cut();
    tear();
    needle();
    hole();
    edge();
    mend();
    way();
    taper();
    cycle();
    sew();
    match();
    hang();
    parts();
    part();
    open();
    slips();
    pull();
    load();
    sum();
    weak();
    count();
    panelOf();
    longUse();
    System.out.println(wrong == 0 ? "all " + sentences + " sentences of the promises hold" : wrong + " answers are not as due");
    if (wrong != 0) System.exit(1);
  }

  private static void holds(int promise, String words, Consumer<NetLoft> calls) {
    sentence = promise + ": " + words;
    sentences++;
    calls.accept(new NetLoft());
  }

  private static void due(String call, long got, long want) {
    if (got == want) return;
    wrong++;
    System.out.println("'" + sentence + "': " + call + " answered " + got + ", due is " + want);
  }

  private static void due(String call, boolean got, boolean want) {
    due(call, got ? 1 : 0, want ? 1 : 0);
  }

  /** The call on each number that is no PANEL's, where so many are there. */
  private static void noSuchPanel(int promise, Asked call, long want) {
    holds(promise, "no such PANEL, where none is", x -> {
      for (int p : new int[] {LOW, -1, 0, 1, 12, HIGH}) due("of panel " + p, call.answer(x, p), want);
    });
    holds(promise, "no such PANEL, behind the last", x -> {
      plain(x, 2, 2);
      plain(x, 2, 2);
      for (int p : new int[] {LOW, -2, -1, 2, 3, 11, 12, HIGH}) due("of panel " + p, call.answer(x, p), want);
    });
    holds(promise, "no such PANEL, where 12 are", x -> {
      for (int p = 0; p < 12; p++) plain(x, 2, 2);
      for (int p : new int[] {LOW, -1, 12, 13, HIGH}) due("of panel " + p, call.answer(x, p), want);
    });
  }

  /** The call on each KNOT that PANEL 0 has not: ROW 0 of 2, ROW 1 MISSING, ROW 2 of 3, no ROW 3. */
  private static void noSuchKnot(int promise, AskedKnot call, long want) {
    holds(promise, "no such KNOT: no such ROW", x -> {
      unevenWithMissing(x);
      for (int r : new int[] {LOW, -1, 3, 19, 20, HIGH}) due("of row " + r, call.answer(x, r, 0), want);
    });
    holds(promise, "no such KNOT: the ROW has not so many PLACES", x -> {
      unevenWithMissing(x);
      for (int k : new int[] {LOW, -1, 2, 23, 24, HIGH}) due("of 0, " + k, call.answer(x, 0, k), want);
      for (int k : new int[] {LOW, -1, 3, 23, 24, HIGH}) due("of 2, " + k, call.answer(x, 2, k), want);
    });
    holds(promise, "no such KNOT: the ROW is MISSING", x -> {
      unevenWithMissing(x);
      for (int k : new int[] {LOW, -1, 0, 1, 2, HIGH}) due("of 1, " + k, call.answer(x, 1, k), want);
    });
  }

  private interface Asked {
    long answer(NetLoft x, int p);
  }

  private interface AskedKnot {
    long answer(NetLoft x, int r, int k);
  }

  private static void unevenWithMissing(NetLoft x) {
    x.panel(2, 1, 1);
    x.row(0);
    x.kind(0, 1, GAIN);
    due("row(0)", x.row(0), 3);
    due("tear(0, 1)", x.tear(0, 1), true);
  }

  private static int plain(NetLoft x, int w, int rows) {
    int p = x.panel(w, 10, 50);
    for (int r = 1; r < rows; r++) due("row(" + p + ")", x.row(p), w);
    return p;
  }

  private static long one(boolean b) {
    return b ? 1 : 0;
  }

  private static void kinds(NetLoft x, int p, int r, int... want) {
    due("meshes(" + p + ", " + r + ")", x.meshes(p, r), want.length);
    for (int k = 0; k < want.length; k++) due("of(" + p + ", " + r + ", " + k + ", 0)", x.of(p, r, k, 0), want[k]);
  }

  private static void way(NetLoft x, int... codes) {
    for (int i = 0; i < codes.length; i++) due("way(" + i + ")", x.way(i), codes[i]);
    due("way(" + codes.length + ")", x.way(codes.length), NONE);
    due("count(2)", x.count(2), codes.length);
  }

  // ---- 1 to 8: panels and their rows

  private static void newObject() {
    holds(1, "No PANELS", x -> {
      due("count(0)", x.count(0), 0);
      due("panelOf(0, 0)", x.panelOf(0, 0), NONE);
      due("meshes(0, 0)", x.meshes(0, 0), NONE);
    });
    holds(1, "PARTS: 101, all 0", x -> {
      due("count(1)", x.count(1), 101);
      plain(x, 1, 1);
      due("open(0)", x.open(0), 0);
      due("part(100, 0): the last", x.part(100, 0), true);
      due("part(101, 0): none", x.part(101, 0), false);
    });
    holds(1, "nothing is at hand", x -> {
      due("count(2)", x.count(2), 0);
      due("way(0)", x.way(0), NONE);
      due("edge(0, 4)", x.edge(0, 4), NONE);
      due("cycle(0)", x.cycle(0), NONE);
      due("match(0)", x.match(0), NONE);
    });
    holds(1, "a new object has nothing of an older one", x -> {
      plain(x, 1, 1);
      x.part(100, 9);
      NetLoft other = new NetLoft();
      due("count(0)", other.count(0), 0);
      due("panel(1, 1, 1)", other.panel(1, 1, 1), 0);
      due("open(0)", other.open(0), 0);
    });
  }

  private static void panel() {
    holds(2, "its number, from 0 to 11", x -> {
      for (int p = 0; p < 12; p++) due("panel", x.panel(p + 1, p + 1, p + 1), p);
      for (int p = 0; p < 12; p++) due("meshes(" + p + ", 0)", x.meshes(p, 0), p + 1);
    });
    holds(2, "NONE: 12 are there", x -> {
      for (int p = 0; p < 12; p++) x.panel(1, 1, 1);
      due("panel(1, 1, 1)", x.panel(1, 1, 1), NONE);
      due("count(0)", x.count(0), 12);
    });
    holds(2, "NONE: w is not 1 .. 24", x -> {
      for (int w : new int[] {LOW, -1, 0, 25, 26, HIGH}) due("panel of " + w, x.panel(w, 1, 1), NONE);
      due("count(0)", x.count(0), 0);
      due("panel of 1", x.panel(1, 1, 1), 0);
      due("panel of 24", x.panel(24, 1, 1), 1);
    });
    holds(2, "NONE: bar not as I tells", x -> {
      for (int bar : new int[] {LOW, -1, 0, 1001, HIGH}) due("panel by " + bar, x.panel(1, bar, 1), NONE);
      due("count(0)", x.count(0), 0);
    });
    holds(2, "NONE: strength not as I tells", x -> {
      for (int s : new int[] {LOW, -1, 0, 1000001, HIGH}) due("panel as strong as " + s, x.panel(1, 1, s), NONE);
      due("count(0)", x.count(0), 0);
    });
    holds(2, "one ROW of w KNOTS", x -> {
      x.panel(3, 1, 1);
      due("panelOf(0, 0)", x.panelOf(0, 0), 1);
      due("panelOf(0, 5)", x.panelOf(0, 5), 3);
    });
  }

  private static void row() {
    noSuchPanel(3, (x, p) -> x.row(p), NONE);
    holds(3, "NONE: 20 ROWS are there", x -> {
      plain(x, 1, 19);
      due("the 20th row", x.row(0), 1);
      due("a 21st row", x.row(0), NONE);
      due("panelOf(0, 0)", x.panelOf(0, 0), 20);
    });
    holds(3, "NONE: its last ROW is MISSING", x -> {
      plain(x, 2, 2);
      x.tear(0, 1);
      due("row(0)", x.row(0), NONE);
      due("panelOf(0, 0)", x.panelOf(0, 0), 2);
    });
    holds(3, "another ROW that is MISSING bars nothing", x -> {
      plain(x, 2, 2);
      x.tear(0, 0);
      due("row(0)", x.row(0), 2);
    });
    holds(3, "NONE: the only ROW is MISSING", x -> {
      plain(x, 2, 1);
      x.tear(0, 0);
      due("row(0)", x.row(0), NONE);
    });
    holds(3, "NONE: more than 24 PLACES would come", x -> {
      plain(x, 24, 1);
      x.kind(0, 0, GAIN);
      due("row(0) of 25", x.row(0), NONE);
      x.kind(0, 23, TAKE);
      due("row(0) of 24", x.row(0), 24);
    });
    holds(3, "NONE: 48 PLACES would come", x -> {
      plain(x, 24, 1);
      for (int k = 0; k < 24; k++) x.kind(0, k, GAIN);
      due("row(0)", x.row(0), NONE);
    });
    holds(3, "or none, would come: PLACE 0 GIVES 1 at least, so 1 is the least", x -> {
      plain(x, 24, 1);
      for (int k = 0; k < 24; k++) due("kind(0, k, 2)", x.kind(0, k, TAKE), k > 0);
      due("row(0)", x.row(0), 1);
    });
  }

  private static void kind() {
    noSuchPanel(4, (x, p) -> one(x.kind(p, 0, 0)), 0);
    holds(4, "of KIND 0, 1, 2: true", x -> {
      plain(x, 2, 1);
      for (int kind : new int[] {0, 1, 2, 0}) {
        due("kind(0, 1, " + kind + ")", x.kind(0, 1, kind), true);
        due("of(0, 0, 1, 0)", x.of(0, 0, 1, 0), kind);
      }
    });
    holds(4, "false: no such PLACE", x -> {
      plain(x, 2, 1);
      for (int k : new int[] {LOW, -1, 2, 23, 24, HIGH}) due("kind(0, " + k + ", 1)", x.kind(0, k, GAIN), false);
      due("kind(0, 1, 1)", x.kind(0, 1, GAIN), true);
    });
    holds(4, "false: no such PLACE of the last ROW, though one above has it", x -> {
      plain(x, 3, 1);
      x.kind(0, 2, TAKE);
      x.row(0);
      due("kind(0, 2, 1)", x.kind(0, 2, GAIN), false);
      due("kind(0, 1, 1)", x.kind(0, 1, GAIN), true);
      kinds(x, 0, 0, 0, 0, 2);
    });
    holds(4, "false: no such KIND, SEWN neither", x -> {
      plain(x, 2, 1);
      for (int kind : new int[] {LOW, -1, 3, 4, HIGH}) due("kind(0, 1, " + kind + ")", x.kind(0, 1, kind), false);
      kinds(x, 0, 0, 0, 0);
    });
    holds(4, "false: a TAKE at PLACE 0", x -> {
      plain(x, 2, 1);
      x.kind(0, 0, GAIN);
      due("kind(0, 0, 2)", x.kind(0, 0, TAKE), false);
      kinds(x, 0, 0, 1, 0);
      due("kind(0, 1, 2)", x.kind(0, 1, TAKE), true);
    });
    holds(4, "false: the ROW is MISSING", x -> {
      plain(x, 2, 2);
      x.tear(0, 1);
      due("kind(0, 0, 0)", x.kind(0, 0, 0), false);
      due("kind(0, 1, 1)", x.kind(0, 1, GAIN), false);
    });
  }

  private static void shape() {
    noSuchPanel(5, (x, p) -> x.shape(p, 1, 1, 2), NONE);
    holds(5, "n 1 .. 19", x -> {
      plain(x, 2, 1);
      for (int n : new int[] {LOW, -1, 0, 20, 21, HIGH}) due("shape " + n + " times", x.shape(0, n, 3, GAIN), NONE);
      due("panelOf(0, 0)", x.panelOf(0, 0), 1);
      due("shape 1 time", x.shape(0, 1, 3, GAIN), 2);
      due("panelOf(0, 0)", x.panelOf(0, 0), 2);
      plain(x, 2, 1);
      due("shape 19 times", x.shape(1, 19, 3, GAIN), 2);
      due("panelOf(1, 0)", x.panelOf(1, 0), 20);
    });
    holds(5, "NONE: e not as told", x -> {
      plain(x, 2, 1);
      for (int e : new int[] {LOW, -1, 0, 25, HIGH}) due("shape by " + e, x.shape(0, 1, e, GAIN), NONE);
      due("shape by 24", x.shape(0, 1, 24, GAIN), 2);
      due("shape by 1", x.shape(0, 1, 1, GAIN), 4);
    });
    holds(5, "NONE: KIND not as told", x -> {
      plain(x, 2, 1);
      for (int kind : new int[] {LOW, -1, 0, 3, HIGH}) due("shape of " + kind, x.shape(0, 1, 1, kind), NONE);
      due("shape of TAKE", x.shape(0, 1, 2, TAKE), 1);
      due("shape of GAIN", x.shape(0, 1, 1, GAIN), 2);
    });
    holds(5, "NONE as row(): its last ROW is MISSING", x -> {
      plain(x, 2, 2);
      x.tear(0, 1);
      due("shape(0, 1, 1, 2)", x.shape(0, 1, 1, TAKE), NONE);
      due("panelOf(0, 0)", x.panelOf(0, 0), 2);
    });
    holds(5, "NONE as row(): 20 ROWS are there", x -> {
      plain(x, 2, 20);
      due("shape(0, 1, 3, 1)", x.shape(0, 1, 3, GAIN), NONE);
    });
    holds(5, "NONE as row(): more than 24 PLACES at once; just 24 are not", x -> {
      plain(x, 13, 1);
      due("shape(0, 1, 1, 1)", x.shape(0, 1, 1, GAIN), NONE);
      plain(x, 12, 1);
      due("shape(1, 1, 1, 1)", x.shape(1, 1, 1, GAIN), 24);
    });
    holds(5, "how many PLACES the last ROW has then: never below 1", x -> {
      plain(x, 24, 1);
      due("shape(0, 19, 1, 2)", x.shape(0, 19, 1, TAKE), 1);
      plain(x, 24, 1);
      due("shape(1, 19, 2, 2)", x.shape(1, 19, 2, TAKE), 1);
      plain(x, 1, 1);
      due("shape(2, 19, 1, 2)", x.shape(2, 19, 1, TAKE), 1);
    });
  }

  private static void shapeThatIsRefusedLate() {
    holds(5, "at any time: too many ROWS would come at the last time alone", x -> {
      plain(x, 4, 18);
      x.kind(0, 1, GAIN);
      due("shape(0, 3, 2, 2)", x.shape(0, 3, 2, TAKE), NONE);
      due("panelOf(0, 0)", x.panelOf(0, 0), 18);
      kinds(x, 0, 17, 0, 1, 0, 0);
      due("shape(0, 2, 2, 2)", x.shape(0, 2, 2, TAKE), 1);
    });
    holds(5, "at any time: too many PLACES would come at the last time alone", x -> {
      plain(x, 4, 1);
      x.kind(0, 3, TAKE);
      // 4, 6, 9, 13, 19, 28
      due("shape(0, 5, 2, 1)", x.shape(0, 5, 2, GAIN), NONE);
      due("panelOf(0, 0)", x.panelOf(0, 0), 1);
      kinds(x, 0, 0, 0, 0, 0, 2);
      due("shape(0, 4, 2, 1)", x.shape(0, 4, 2, GAIN), 19);
      due("panelOf(0, 0)", x.panelOf(0, 0), 5);
    });
    holds(5, "the last ROW has what each time GIVES", x -> {
      plain(x, 5, 1);
      due("shape(0, 3, 5, 1)", x.shape(0, 3, 5, GAIN), 8);
      int[] meshes = {5, 6, 7, 8};
      for (int r = 0; r < 4; r++) due("meshes(0, " + r + ")", x.meshes(0, r), meshes[r]);
      kinds(x, 0, 2, 0, 0, 0, 0, 1, 0, 0);
      kinds(x, 0, 3, 0, 0, 0, 0, 0, 0, 0, 0);
    });
  }

  private static void ahead() {
    holds(6, "n, w 1 .. 1000: the least, the greatest", x -> {
      due("ahead(1, 1, 1, 1)", x.ahead(1, 1, 1, GAIN), 2);
      due("ahead(1, 1000, 2, 1)", x.ahead(1, 1000, 2, GAIN), 1);
      due("ahead(1000, 1, 1, 1)", x.ahead(1000, 1, 1, GAIN), 2000);
      due("ahead(1000, 1000, 24, 2)", x.ahead(1000, 1000, 24, TAKE), 23);
    });
    holds(6, "NONE: other w", x -> {
      for (int w : new int[] {LOW, -1, 0, 1001, HIGH}) due("ahead of " + w, x.ahead(w, 1, 1, GAIN), NONE);
    });
    holds(6, "NONE: other n", x -> {
      for (int n : new int[] {LOW, -1, 0, 1001, HIGH}) due("ahead by " + n, x.ahead(1, n, 24, GAIN), NONE);
    });
    holds(6, "NONE: e, KIND not as told", x -> {
      for (int e : new int[] {LOW, -1, 0, 25, HIGH}) due("ahead by every " + e, x.ahead(1, 1, e, GAIN), NONE);
      for (int kind : new int[] {LOW, -1, 0, 3, HIGH}) due("ahead of " + kind, x.ahead(1, 1, 1, kind), NONE);
      due("ahead(24, 1, 24, 1)", x.ahead(24, 1, 24, GAIN), 25);
      due("ahead(24, 1, 24, 2)", x.ahead(24, 1, 24, TAKE), 23);
    });
    holds(6, "whatever the bounds of PANELS", x -> {
      due("ahead(24, 1, 1, 1)", x.ahead(24, 1, 1, GAIN), 48);
      due("ahead(25, 20, 24, 1)", x.ahead(25, 20, 24, GAIN), 45);
    });
    holds(6, "NONE: it would be above 1000000000000 at any time", x -> {
      // of all that can be asked these come nearest to the bound
      due("ahead(639, 413, 19, 1)", x.ahead(639, 413, 19, GAIN), 999953097690L);
      due("ahead(639, 414, 19, 1)", x.ahead(639, 414, 19, GAIN), NONE);
      due("ahead(785, 114, 5, 1)", x.ahead(785, 114, 5, GAIN), 833451945717L);
      due("ahead(785, 115, 5, 1): 1000142334860", x.ahead(785, 115, 5, GAIN), NONE);
      due("ahead(1, 39, 1, 1)", x.ahead(1, 39, 1, GAIN), 549755813888L);
      due("ahead(1, 40, 1, 1)", x.ahead(1, 40, 1, GAIN), NONE);
      due("ahead(1, 63, 1, 1): a long would wrap", x.ahead(1, 63, 1, GAIN), NONE);
      due("ahead(1, 64, 1, 1)", x.ahead(1, 64, 1, GAIN), NONE);
      due("ahead(1000, 1000, 1, 1)", x.ahead(1000, 1000, 1, GAIN), NONE);
    });
    holds(6, "TAKE not at PLACE 0", x -> {
      due("ahead(1000, 1, 1, 2)", x.ahead(1000, 1, 1, TAKE), 1);
      due("ahead(1, 1000, 1, 2)", x.ahead(1, 1000, 1, TAKE), 1);
      due("ahead(2, 1, 2, 2)", x.ahead(2, 1, 2, TAKE), 1);
    });
    holds(6, "as shape() answers, where PANELS bear it", x -> {
      for (int kind = GAIN; kind <= TAKE; kind++) {
        for (int e = 1; e <= 24; e++) {
          for (int w = 1; w <= 24; w += 5) {
            NetLoft y = new NetLoft();
            y.panel(w, 1, 1);
            long ahead = y.ahead(w, 3, e, kind);
            String call = "shape of " + w + " by every " + e + ", kind " + kind;
            due(call, y.shape(0, 3, e, kind), ahead > 24 ? NONE : ahead);
          }
        }
      }
    });
  }

  private static void meshes() {
    noSuchPanel(7, (x, p) -> x.meshes(p, 0), NONE);
    holds(7, "0 of a MISSING one", x -> {
      plain(x, 2, 3);
      for (int r = 0; r < 3; r++) {
        due("meshes(0, " + r + ")", x.meshes(0, r), 2);
        x.tear(0, r);
        due("meshes(0, " + r + ")", x.meshes(0, r), 0);
      }
    });
    holds(7, "NONE: there is none such", x -> {
      plain(x, 2, 20);
      plain(x, 2, 3);
      for (int r : new int[] {LOW, -1, 20, 21, HIGH}) due("meshes(0, " + r + ")", x.meshes(0, r), NONE);
      for (int r : new int[] {LOW, -1, 3, 19, 20, HIGH}) due("meshes(1, " + r + ")", x.meshes(1, r), NONE);
      due("meshes(0, 19)", x.meshes(0, 19), 2);
      due("meshes(1, 2)", x.meshes(1, 2), 2);
    });
  }

  private static void of() {
    noSuchPanel(8, (x, p) -> x.of(p, 0, 0, 0), NONE);
    for (int what = 0; what < 7; what++) {
      int asked = what;
      noSuchKnot(8, (x, r, k) -> x.of(0, r, k, asked), NONE);
    }
    noSuchKnot(8, (x, r, k) -> x.of(0, r, k, 10), NONE);
    holds(8, "NONE for others", x -> {
      plain(x, 2, 2);
      for (int what : new int[] {LOW, LOW + 9, LOW + 10, -1, 7, 8, 9}) due("of(0, 1, 0, " + what + ")", x.of(0, 1, 0, what), NONE);
    });
    holds(8, "the PLACE of its FIRST one (4; NONE in ROW 0)", x -> {
      plain(x, 2, 2);
      due("of(0, 0, 1, 4)", x.of(0, 0, 1, 4), NONE);
      due("of(0, 1, 0, 4)", x.of(0, 1, 0, 4), 0);
      due("of(0, 1, 1, 4)", x.of(0, 1, 1, 4), 1);
    });
    holds(8, "a NEEDLE on it (5: 1, 0)", x -> {
      plain(x, 2, 1);
      due("of(0, 0, 1, 5)", x.of(0, 0, 1, 5), 0);
      x.needle(0, 0, 1, true);
      due("of(0, 0, 1, 5)", x.of(0, 0, 1, 5), 1);
      due("of(0, 0, 0, 5)", x.of(0, 0, 0, 5), 0);
    });
    holds(8, "(Where the ROW above is MISSING: no SIDES, NONE.)", x -> {
      plain(x, 2, 3);
      x.cut(0, 1, 0);
      x.tear(0, 0);
      int[] want = {0, 1, 0, 0, NONE, 0, 1};
      for (int what = 0; what < 7; what++) due("of(0, 1, 0, " + what + ")", x.of(0, 1, 0, what), want[what]);
      due("of(0, 1, 0, 10)", x.of(0, 1, 0, 10), NONE);
      due("of(0, 2, 0, 2): below that all is as it was", x.of(0, 2, 0, 2), 2);
    });
  }

  private static void ofSides() {
    holds(8, "how many SIDES of its own (2), how many of these are GONE (3)", x -> {
      plain(x, 2, 2);
      due("of(0, 1, 0, 3)", x.of(0, 1, 0, 3), 0);
      x.side(0, 1, 0, 0, false);
      due("of(0, 1, 0, 3)", x.of(0, 1, 0, 3), 1);
      x.side(0, 1, 0, 1, false);
      due("of(0, 1, 0, 3)", x.of(0, 1, 0, 3), 2);
      due("of(0, 1, 0, 2): the GONE ones count", x.of(0, 1, 0, 2), 2);
      due("of(0, 1, 1, 3)", x.of(0, 1, 1, 3), 0);
    });
    holds(8, "GONE SIDES in all (6: its own and those of what hangs in it)", x -> {
      plain(x, 3, 3);
      due("of(0, 1, 1, 6)", x.of(0, 1, 1, 6), 0);
      x.side(0, 1, 1, 1, false);
      due("of(0, 1, 1, 6)", x.of(0, 1, 1, 6), 1);
      x.side(0, 2, 1, 0, false);
      due("of(0, 1, 1, 6)", x.of(0, 1, 1, 6), 2);
      x.side(0, 2, 0, 1, false);
      due("of(0, 1, 1, 6)", x.of(0, 1, 1, 6), 3);
      x.side(0, 2, 1, 1, false);
      due("of(0, 1, 1, 6): another one's", x.of(0, 1, 1, 6), 3);
    });
    holds(8, "10 + s: the PLACE in which its own SIDE s hangs (NONE without)", x -> {
      plain(x, 3, 2);
      int[][] asked = {{0, 10, 0}, {0, 11, 1}, {0, 12, NONE}, {1, 10, 1}, {1, 11, 2}, {1, 12, NONE}, {2, 10, 2}, {2, 11, NONE}};
      for (int[] a : asked) due("of(0, 1, " + a[0] + ", " + a[1] + ")", x.of(0, 1, a[0], a[1]), a[2]);
      x.side(0, 1, 0, 0, false);
      due("of(0, 1, 0, 10): a GONE one is there", x.of(0, 1, 0, 10), 0);
      due("of(0, 0, 0, 10): ROW 0 has none", x.of(0, 0, 0, 10), NONE);
      for (int what : new int[] {42, 43, 74, HIGH - 1, HIGH}) due("of(0, 1, 0, " + what + ")", x.of(0, 1, 0, what), NONE);
    });
  }

  // ---- 9 to 12: tearing

  private static void side() {
    noSuchPanel(9, (x, p) -> one(x.side(p, 1, 0, 0, false)), 0);
    noSuchKnot(9, (x, r, k) -> one(x.side(0, r, k, 0, false)), 0);
    holds(9, "is GONE, or (on) whole: true, also if it is so already", x -> {
      plain(x, 2, 2);
      due("side on", x.side(0, 1, 0, 1, true), true);
      due("of(0, 1, 0, 3)", x.of(0, 1, 0, 3), 0);
      due("side off", x.side(0, 1, 0, 1, false), true);
      due("side off", x.side(0, 1, 0, 1, false), true);
      due("of(0, 1, 0, 3)", x.of(0, 1, 0, 3), 1);
      due("side on", x.side(0, 1, 0, 1, true), true);
      due("of(0, 1, 0, 3)", x.of(0, 1, 0, 3), 0);
    });
    holds(9, "false: there is none such", x -> {
      plain(x, 2, 2);
      for (int s : new int[] {LOW, -1, 2, 3, 24, 31, 32, 33, 64, HIGH}) {
        due("side(0, 1, 0, " + s + ", false)", x.side(0, 1, 0, s, false), false);
        due("side(0, 1, 0, " + s + ", true)", x.side(0, 1, 0, s, true), false);
      }
      due("side(0, 1, 1, 1, false)", x.side(0, 1, 1, 1, false), false);
      due("panelOf(0, 8)", x.panelOf(0, 8), 0);
    });
    holds(9, "false: of ROW 0, and below a MISSING ROW", x -> {
      plain(x, 2, 3);
      due("side(0, 0, 0, 0, false)", x.side(0, 0, 0, 0, false), false);
      x.tear(0, 1);
      due("side(0, 2, 0, 0, false)", x.side(0, 2, 0, 0, false), false);
      due("panelOf(0, 8)", x.panelOf(0, 8), 0);
    });
    holds(9, "the last of 24 SIDES", x -> {
      plain(x, 24, 1);
      for (int k = 1; k < 24; k++) x.kind(0, k, TAKE);
      x.row(0);
      due("side(0, 1, 0, 23, false)", x.side(0, 1, 0, 23, false), true);
      due("of(0, 0, 23, 6)", x.of(0, 0, 23, 6), 1);
      due("of(0, 1, 0, 3)", x.of(0, 1, 0, 3), 1);
      due("side(0, 1, 0, 24, false)", x.side(0, 1, 0, 24, false), false);
    });
  }

  private static void cut() {
    noSuchPanel(10, (x, p) -> x.cut(p, 0, 0), NONE);
    noSuchKnot(10, (x, r, k) -> x.cut(0, r, k), NONE);
    holds(10, "All SIDES of a KNOT: how many were whole: all, some, none", x -> {
      plain(x, 3, 3);
      due("cut(0, 1, 1)", x.cut(0, 1, 1), 4);
      due("cut(0, 1, 1)", x.cut(0, 1, 1), 0);
      due("cut(0, 1, 0)", x.cut(0, 1, 0), 3);
      due("cut(0, 2, 1)", x.cut(0, 2, 1), 1);
      due("panelOf(0, 8)", x.panelOf(0, 8), 8);
    });
    holds(10, "its own alone in the last ROW, those of what hangs in it alone in ROW 0", x -> {
      plain(x, 2, 2);
      due("cut(0, 1, 1)", x.cut(0, 1, 1), 1);
      due("cut(0, 0, 1)", x.cut(0, 0, 1), 1);
      due("of(0, 1, 0, 3)", x.of(0, 1, 0, 3), 1);
    });
    holds(10, "0: it has no SIDES at all", x -> {
      plain(x, 1, 1);
      due("cut(0, 0, 0)", x.cut(0, 0, 0), 0);
      x.row(0);
      x.row(0);
      x.tear(0, 1);
      due("cut(0, 0, 0) over a MISSING ROW", x.cut(0, 0, 0), 0);
      due("cut(0, 2, 0) below a MISSING ROW", x.cut(0, 2, 0), 0);
    });
    holds(10, "the most that are: 24 of its own and 3 that hang in it", x -> {
      plain(x, 24, 1);
      for (int k = 1; k < 24; k++) x.kind(0, k, TAKE);
      x.row(0);
      x.kind(0, 0, GAIN);
      x.row(0);
      due("cut(0, 1, 0)", x.cut(0, 1, 0), 26);
      due("panelOf(0, 8)", x.panelOf(0, 8), 26);
    });
  }

  private static void tear() {
    noSuchPanel(11, (x, p) -> one(x.tear(p, 0)), 0);
    holds(11, "false: there is none such", x -> {
      plain(x, 2, 3);
      for (int r : new int[] {LOW, -1, 3, 19, 20, HIGH}) due("tear(0, " + r + ")", x.tear(0, r), false);
      due("panelOf(0, 5)", x.panelOf(0, 5), 6);
    });
    holds(11, "false: it is MISSING already", x -> {
      plain(x, 2, 3);
      for (int r = 0; r < 3; r++) {
        due("tear(0, " + r + ")", x.tear(0, r), true);
        due("tear(0, " + r + ") again", x.tear(0, r), false);
      }
    });
    holds(11, "its KNOTS, NEEDLES, SIDES, and those of the ROW below, are no more", x -> {
      plain(x, 2, 3);
      for (int r = 0; r < 3; r++) x.needle(0, r, 0, true);
      for (int r = 0; r < 3; r++) x.cut(0, r, 0);
      due("panelOf(0, 7)", x.panelOf(0, 7), 6);
      due("tear(0, 1)", x.tear(0, 1), true);
      due("panelOf(0, 5): the KNOTS below stay", x.panelOf(0, 5), 4);
      due("panelOf(0, 6): their NEEDLES stay", x.panelOf(0, 6), 2);
      due("panelOf(0, 7)", x.panelOf(0, 7), 0);
      due("panelOf(0, 8)", x.panelOf(0, 8), 0);
    });
    holds(11, "(KNOTS below hang in nothing): the last of 24, too", x -> {
      plain(x, 24, 2);
      x.cut(0, 1, 23);
      due("tear(0, 0)", x.tear(0, 0), true);
      for (int k = 0; k < 24; k++) due("of(0, 1, " + k + ", 2)", x.of(0, 1, k, 2), 0);
      due("of(0, 1, 23, 3)", x.of(0, 1, 23, 3), 0);
      due("panelOf(0, 7)", x.panelOf(0, 7), 0);
      due("panelOf(0, 8)", x.panelOf(0, 8), 0);
    });
    holds(11, "(KNOTS below hang in nothing): the last ROW has none below", x -> {
      plain(x, 2, 3);
      due("tear(0, 2)", x.tear(0, 2), true);
      due("panelOf(0, 7)", x.panelOf(0, 7), 3);
      due("of(0, 1, 0, 2)", x.of(0, 1, 0, 2), 2);
    });
    holds(11, "all ROWS of 20 torn, the last one first", x -> {
      plain(x, 24, 20);
      for (int r = 19; r >= 0; r--) due("tear(0, " + r + ")", x.tear(0, r), true);
      int[] want = {20, 10, 50, 1, 1, 0, 0, 0, 0};
      for (int what = 0; what < 9; what++) due("panelOf(0, " + what + ")", x.panelOf(0, what), want[what]);
    });
    holds(11, "of another PANEL nothing is torn", x -> {
      plain(x, 2, 2);
      plain(x, 2, 2);
      x.sew(0, 1);
      x.tear(0, 1);
      due("meshes(1, 1)", x.meshes(1, 1), 2);
      due("meshes(2, 1)", x.meshes(2, 1), 2);
      due("of(2, 2, 0, 2)", x.of(2, 2, 0, 2), 2);
    });
  }

  private static void needle() {
    noSuchPanel(12, (x, p) -> one(x.needle(p, 0, 0, true)), 0);
    noSuchKnot(12, (x, r, k) -> one(x.needle(0, r, k, true)), 0);
    noSuchKnot(12, (x, r, k) -> one(x.needle(0, r, k, false)), 0);
    holds(12, "lies on a KNOT, or not: true, also if it is so already", x -> {
      plain(x, 2, 2);
      due("needle off", x.needle(0, 1, 1, false), true);
      due("of(0, 1, 1, 5)", x.of(0, 1, 1, 5), 0);
      due("needle on", x.needle(0, 1, 1, true), true);
      due("needle on", x.needle(0, 1, 1, true), true);
      due("panelOf(0, 6)", x.panelOf(0, 6), 1);
      due("needle off", x.needle(0, 1, 1, false), true);
      due("panelOf(0, 6)", x.panelOf(0, 6), 0);
    });
    holds(12, "on all KNOTS", x -> {
      plain(x, 24, 4);
      for (int r = 0; r < 4; r++) {
        for (int k = 0; k < 24; k++) due("needle", x.needle(0, r, k, true), true);
      }
      due("panelOf(0, 6)", x.panelOf(0, 6), 96);
    });
  }

  // ---- 13 to 16: holes

  private static void hole() {
    noSuchPanel(13, (x, p) -> x.hole(p, 0, 0), NONE);
    noSuchKnot(13, (x, r, k) -> x.hole(0, r, k), NONE);
    holds(13, "(0: no GONE SIDE); it is the HOLE at hand", x -> {
      plain(x, 2, 2);
      x.cut(0, 1, 1);
      due("hole(0, 1, 1)", x.hole(0, 1, 1), 2);
      due("hole(0, 0, 0)", x.hole(0, 0, 0), 0);
      due("edge(0, 0)", x.edge(0, 0), NONE);
      due("edge(0, 2)", x.edge(0, 2), 0);
      due("edge(0, 4)", x.edge(0, 4), 0);
    });
    holds(13, "NONE (the one at hand stays)", x -> {
      plain(x, 2, 2);
      x.cut(0, 1, 1);
      x.hole(0, 1, 1);
      int[][] none = {{0, 2, 0}, {0, 0, 2}, {1, 0, 0}, {-1, 0, 0}, {0, -1, 0}, {0, 0, -1}};
      for (int[] n : none) {
        due("hole", x.hole(n[0], n[1], n[2]), NONE);
        due("edge(0, 0)", x.edge(0, 0), 1);
        due("edge(0, 4)", x.edge(0, 4), 1);
      }
    });
    holds(13, "a HOLE has nothing of the one ahead of it: of ROW 19, of PLACE 23", x -> {
      plain(x, 24, 20);
      x.cut(0, 19, 23);
      x.cut(0, 1, 23);
      due("hole(0, 19, 23)", x.hole(0, 19, 23), 2);
      due("edge(1, 0)", x.edge(1, 0), 1923);
      due("hole(0, 0, 23)", x.hole(0, 0, 23), 4);
      due("edge(3, 0): 22 and 23 of ROW 2 hang in it", x.edge(3, 0), 223);
      x.cut(0, 5, 0);
      due("hole(0, 5, 0)", x.hole(0, 5, 0), 4);
      int[] codes = {400, 401, 500, 600, NONE};
      for (int i = 0; i < 5; i++) due("edge(" + i + ", 0)", x.edge(i, 0), codes[i]);
    });
    holds(13, "NONE ahead of any: there is none at hand still", x -> {
      due("hole(0, 0, 0)", x.hole(0, 0, 0), NONE);
      due("edge(0, 2)", x.edge(0, 2), NONE);
    });
    holds(13, "a KNOT below a MISSING ROW, and over it", x -> {
      plain(x, 2, 3);
      x.cut(0, 1, 0);
      x.tear(0, 1);
      due("hole(0, 0, 0)", x.hole(0, 0, 0), 0);
      due("hole(0, 2, 0)", x.hole(0, 2, 0), 0);
    });
  }

  private static void edge() {
    holds(14, "NONE ahead of any", x -> {
      plain(x, 1, 1);
      for (int what = 0; what < 5; what++) due("edge(0, " + what + ")", x.edge(0, what), NONE);
    });
    holds(14, "KNOT i: none behind the last", x -> {
      plain(x, 1, 2);
      x.cut(0, 1, 0);
      due("hole(0, 1, 0)", x.hole(0, 1, 0), 2);
      for (int i : new int[] {LOW, -1, 2, 3, 479, 480, HIGH}) {
        due("edge(" + i + ", 0)", x.edge(i, 0), NONE);
        due("edge(" + i + ", 1)", x.edge(i, 1), NONE);
      }
      due("edge(0, 0)", x.edge(0, 0), 0);
      due("edge(1, 0)", x.edge(1, 0), 100);
      due("edge(1, 1)", x.edge(1, 1), 1);
    });
    holds(14, "none behind the last, where the one ahead of it had more", x -> {
      plain(x, 3, 3);
      x.cut(0, 1, 1);
      x.hole(0, 1, 1);
      due("edge(4, 0)", x.edge(4, 0), 201);
      plain(x, 1, 2);
      x.cut(1, 1, 0);
      x.hole(1, 1, 0);
      due("edge(2, 0)", x.edge(2, 0), NONE);
      due("edge(2, 1)", x.edge(2, 1), NONE);
      due("edge(0, 2)", x.edge(0, 2), 1);
    });
    holds(14, "2: GONE SIDES, 3: ODD ones, 4: TWINES (i is not looked at)", x -> {
      plain(x, 2, 2);
      x.cut(0, 0, 1);
      x.hole(0, 0, 1);
      for (int i : new int[] {LOW, -1, 0, 3, HIGH}) {
        due("edge(" + i + ", 2)", x.edge(i, 2), 2);
        due("edge(" + i + ", 3)", x.edge(i, 3), 2);
        due("edge(" + i + ", 4)", x.edge(i, 4), 1);
      }
    });
    holds(14, "(0 of an empty one; i is not looked at)", x -> {
      plain(x, 1, 1);
      due("hole(0, 0, 0)", x.hole(0, 0, 0), 0);
      for (int i : new int[] {LOW, -1, 0, 1, HIGH}) {
        for (int what = 2; what < 5; what++) due("edge(" + i + ", " + what + ")", x.edge(i, what), 0);
        for (int what = 0; what < 2; what++) due("edge(" + i + ", " + what + ")", x.edge(i, what), NONE);
      }
    });
    holds(14, "NONE for others", x -> {
      plain(x, 1, 2);
      x.cut(0, 1, 0);
      x.hole(0, 1, 0);
      for (int what : new int[] {LOW, -1, 5, 6, HIGH}) due("edge(0, " + what + ")", x.edge(0, what), NONE);
    });
    holds(14, "as it was then: not as MENDED, torn or cut since", x -> {
      plain(x, 2, 3);
      x.side(0, 1, 0, 1, false);
      x.hole(0, 1, 0);
      x.cut(0, 2, 0);
      due("edge(0, 2) behind a cut", x.edge(0, 2), 1);
      x.side(0, 2, 0, 0, true);
      x.side(0, 2, 0, 1, true);
      due("mend(0, 1, 0)", x.mend(0, 1, 0), 1);
      due("edge(0, 2) behind a mend", x.edge(0, 2), 1);
      x.tear(0, 1);
      due("edge(0, 0) behind a tear", x.edge(0, 0), 1);
      due("edge(1, 0) behind a tear", x.edge(1, 0), 100);
      due("edge(1, 1) behind a tear", x.edge(1, 1), 1);
    });
  }

  private static void mend() {
    noSuchPanel(15, (x, p) -> x.mend(p, 0, 0), NONE);
    noSuchKnot(15, (x, r, k) -> x.mend(0, r, k), NONE);
    holds(15, "0: it has none", x -> {
      plain(x, 2, 2);
      x.needle(0, 0, 0, true);
      due("mend(0, 0, 0)", x.mend(0, 0, 0), 0);
      due("mend(0, 1, 1)", x.mend(0, 1, 1), 0);
      way(x);
    });
    holds(15, "n, and nothing is done: it needs n TWINES", x -> {
      plain(x, 3, 3);
      x.cut(0, 1, 1);
      due("mend(0, 1, 1)", x.mend(0, 1, 1), 2);
      due("panelOf(0, 8)", x.panelOf(0, 8), 4);
      way(x);
      due("edge(0, 2): none is at hand", x.edge(0, 2), NONE);
    });
    holds(15, "-2: a NEEDLE lies on a KNOT of it (and it needs 1)", x -> {
      plain(x, 2, 2);
      x.side(0, 1, 0, 0, false);
      x.needle(0, 0, 0, true);
      due("mend(0, 1, 0)", x.mend(0, 1, 0), -2);
      due("panelOf(0, 8)", x.panelOf(0, 8), 1);
      way(x);
      x.needle(0, 0, 0, false);
      due("mend(0, 1, 0)", x.mend(0, 1, 0), 1);
    });
    holds(15, "n, though a NEEDLE lies on a KNOT of it", x -> {
      plain(x, 3, 3);
      x.cut(0, 1, 1);
      x.needle(0, 1, 1, true);
      due("mend(0, 1, 1)", x.mend(0, 1, 1), 2);
    });
    holds(15, "1, and its WAY is the one at hand; it stays with what is refused behind it", x -> {
      plain(x, 2, 3);
      x.side(0, 1, 1, 0, false);
      due("mend(0, 0, 1)", x.mend(0, 0, 1), 1);
      way(x, 1, 101);
      due("mend again", x.mend(0, 0, 1), 0);
      way(x, 1, 101);
      x.side(0, 2, 0, 0, false);
      x.needle(0, 2, 0, true);
      due("mend under a NEEDLE", x.mend(0, 2, 0), -2);
      due("mend of none", x.mend(0, 3, 0), NONE);
      way(x, 1, 101);
      x.needle(0, 2, 0, false);
      due("mend(0, 2, 0)", x.mend(0, 2, 0), 1);
      way(x, 100, 200);
    });
    holds(15, "a HOLE with an end at PLACE 23", x -> {
      plain(x, 24, 2);
      x.side(0, 1, 22, 1, false);
      x.side(0, 1, 23, 0, false);
      due("mend(0, 0, 23)", x.mend(0, 0, 23), 1);
      way(x, 122, 23, 123);
      due("panelOf(0, 8)", x.panelOf(0, 8), 0);
    });
    holds(15, "a HOLE with an end in ROW 19", x -> {
      plain(x, 2, 20);
      x.side(0, 19, 1, 0, false);
      x.side(0, 19, 0, 1, false);
      due("mend(0, 18, 1)", x.mend(0, 18, 1), 1);
      way(x, 1900, 1801, 1901);
    });
  }

  private static void way() {
    holds(16, "NONE: it has not so many, ahead of any", x -> {
      for (int i : new int[] {LOW, -1, 0, 1, HIGH}) due("way(" + i + ")", x.way(i), NONE);
    });
    holds(16, "NONE: it has not so many", x -> {
      plain(x, 1, 2);
      x.cut(0, 1, 0);
      x.mend(0, 1, 0);
      for (int i : new int[] {LOW, -1, 2, 3, HIGH}) due("way(" + i + ")", x.way(i), NONE);
      due("way(0)", x.way(0), 0);
      due("way(1)", x.way(1), 100);
    });
    holds(16, "NONE: it has not so many, where the one ahead of it had more", x -> {
      plain(x, 1, 4);
      x.cut(0, 1, 0);
      x.cut(0, 3, 0);
      x.mend(0, 1, 0);
      way(x, 0, 100, 200, 300);
      x.cut(0, 0, 0);
      x.mend(0, 0, 0);
      way(x, 0, 100);
    });
    holds(16, "as it went, whatever comes behind it", x -> {
      plain(x, 1, 2);
      x.cut(0, 1, 0);
      x.mend(0, 1, 0);
      x.cut(0, 1, 0);
      x.tear(0, 1);
      way(x, 0, 100);
    });
  }

  // ---- 17 to 20: tapers and seams

  private static void taper() {
    holds(17, "NONE: w not 1 .. 1000", x -> {
      for (int w : new int[] {LOW, -1, 0, 1001, HIGH}) due("taper from " + w, x.taper(w, 1, 1), NONE);
    });
    holds(17, "NONE: v not 1 .. 1000, or above w", x -> {
      for (int v : new int[] {LOW, -1, 0, 6, 1000, 1001, HIGH}) due("taper to " + v, x.taper(5, v, 1), NONE);
      due("taper(5, 5, 1)", x.taper(5, 5, 1), 1);
      due("taper(5, 1, 1)", x.taper(5, 1, 1), 1);
    });
    holds(17, "NONE: d not 1 .. 400", x -> {
      for (int d : new int[] {LOW, -1, 0, 401, HIGH}) due("taper in " + d, x.taper(5, 4, d), NONE);
      due("taper(5, 4, 1)", x.taper(5, 4, 1), 1);
      due("taper(5, 4, 400)", x.taper(5, 4, 400), 201);
    });
    holds(17, "the most and the least that can be taken", x -> {
      due("taper(1, 1, 1)", x.taper(1, 1, 1), 1);
      due("cycle(1)", x.cycle(1), 0);
      due("taper(1000, 1, 1)", x.taper(1000, 1, 1), 1);
      due("cycle(1)", x.cycle(1), 999);
      // 999 = 2 * 400 + 199: l 1 takes 800 or 1200, l 2 takes 800 or 1000, ..; 999 / 400 needs near 5 / 2
      due("taper(1000, 1, 400)", x.taper(1000, 1, 400), 201);
      due("cycle(1)", x.cycle(1), 502);
    });
    holds(17, "l of d ROWS: 1 less than d in d ROWS", x -> {
      for (int d = 3; d <= 400; d += 13) {
        due("taper of d - 1 in " + d, x.taper(d, 1, d), leastCycle(d - 1, d));
        due("taper of d + 1 in " + d, x.taper(d + 2, 1, d), leastCycle(d + 1, d));
      }
    });
  }

  /** By the words: a CYCLE of l ROWS, of which what each ROW takes is counted up over d ROWS. */
  private static int leastCycle(int taken, int d) {
    for (int l = 1; l <= d; l++) {
      for (int t = taken * l / d; t <= taken * l / d + 2; t++) {
        int all = 0;
        for (int row = 0; row < d; row++) all += (row % l + 1) * t / l - row % l * t / l;
        if (all == taken) return l;
      }
    }
    return NONE;
  }

  private static void cycle() {
    holds(18, "NONE ahead of any", x -> {
      for (int what = 0; what < 4; what++) due("cycle(" + what + ")", x.cycle(what), NONE);
    });
    holds(18, "NONE ahead of any that was not NONE", x -> {
      x.taper(5, 6, 1);
      x.taper(5, 5, 401);
      for (int what = 0; what < 4; what++) due("cycle(" + what + ")", x.cycle(what), NONE);
    });
    holds(18, "Of the latest TAPER (that was not NONE)", x -> {
      x.taper(9, 7, 5);
      x.taper(9, 6, 5);
      x.taper(9, 10, 5);
      x.taper(9, 0, 5);
      x.taper(9, 9, 0);
      int[] want = {3, 2, 1, 2};
      for (int what = 0; what < 4; what++) due("cycle(" + what + ")", x.cycle(what), want[what]);
    });
    holds(18, "NONE for others", x -> {
      x.taper(9, 7, 5);
      for (int what : new int[] {LOW, -1, 4, 5, HIGH}) due("cycle(" + what + ")", x.cycle(what), NONE);
    });
    holds(18, "how many whole CYCLES (2), ROWS behind them (3): none behind, 400 of 1, 1 of 400", x -> {
      x.taper(5, 5, 400);
      due("cycle(2)", x.cycle(2), 400);
      due("cycle(3)", x.cycle(3), 0);
      x.taper(2, 1, 400);
      due("cycle(0)", x.cycle(0), 201);
      due("cycle(2)", x.cycle(2), 1);
      due("cycle(3)", x.cycle(3), 199);
    });
  }

  private static void sew() {
    noSuchPanel(19, (x, p) -> x.sew(p, 0), NONE);
    noSuchPanel(19, (x, p) -> x.sew(0, p), NONE);
    holds(19, "NONE: one and the same", x -> {
      plain(x, 2, 1);
      plain(x, 2, 1);
      due("sew(0, 0)", x.sew(0, 0), NONE);
      due("sew(1, 1)", x.sew(1, 1), NONE);
      due("count(0)", x.count(0), 2);
    });
    holds(19, "NONE: 12 are there", x -> {
      for (int p = 0; p < 11; p++) plain(x, 2, 1);
      due("sew(0, 1): the 12th", x.sew(0, 1), 11);
      due("sew(0, 1): a 13th", x.sew(0, 1), NONE);
      due("count(0)", x.count(0), 12);
    });
    holds(19, "NONE: more than 20 ROWS would come", x -> {
      plain(x, 1, 19);
      plain(x, 1, 1);
      due("sew(0, 1) of 20", x.sew(0, 1), 2);
      due("sew(1, 0) of 20", x.sew(1, 0), 3);
      plain(x, 1, 2);
      due("sew(0, 4) of 21", x.sew(0, 4), NONE);
      due("sew(4, 0) of 21", x.sew(4, 0), NONE);
      due("sew(2, 3) of 40", x.sew(2, 3), NONE);
    });
    holds(19, "NONE: the last ROW of the first is MISSING", x -> {
      plain(x, 2, 2);
      plain(x, 2, 2);
      x.tear(0, 1);
      due("sew(0, 1)", x.sew(0, 1), NONE);
      due("sew(1, 0): its first ROW is there", x.sew(1, 0), 2);
    });
    holds(19, "NONE: the first ROW of the second one is MISSING", x -> {
      plain(x, 2, 2);
      plain(x, 2, 2);
      x.tear(1, 0);
      due("sew(0, 1)", x.sew(0, 1), NONE);
      due("sew(1, 0): its last ROW is there", x.sew(1, 0), 2);
    });
    holds(19, "NONE: one has more than twice the other's", x -> {
      plain(x, 5, 1);
      plain(x, 11, 1);
      plain(x, 10, 1);
      due("sew(0, 1)", x.sew(0, 1), NONE);
      due("sew(1, 0)", x.sew(1, 0), NONE);
      due("sew(0, 2)", x.sew(0, 2), 3);
      due("sew(2, 0)", x.sew(2, 0), 4);
    });
    holds(19, "Two PANELS are SEWN: the last PLACE of 24 and the last ROW of each are as they are", x -> {
      for (int p = 0; p < 2; p++) {
        plain(x, 24, 1);
        x.kind(p, 22, TAKE);
        x.kind(p, 23, GAIN);
        x.row(p);
        x.kind(p, 23, GAIN);
        x.needle(p, 0, 23, true);
        x.needle(p, 1, 23, true);
        x.side(p, 1, 23, 0, false);
      }
      due("sew(0, 1)", x.sew(0, 1), 2);
      int[][] last = {{0, 1, 2, 0, 1}, {1, 3, 1, 1, 1}, {2, 1, 2, 0, 1}, {3, 1, 2, 1, 1}};
      for (int[] w : last) {
        due("of(2, " + w[0] + ", 23, 0)", x.of(2, w[0], 23, 0), w[1]);
        due("of(2, " + w[0] + ", 23, 1)", x.of(2, w[0], 23, 1), w[2]);
        due("of(2, " + w[0] + ", 23, 3)", x.of(2, w[0], 23, 3), w[3]);
        due("of(2, " + w[0] + ", 23, 5)", x.of(2, w[0], 23, 5), w[4]);
      }
      due("of(2, 1, 23, 2)", x.of(2, 1, 23, 2), 1);
      due("of(2, 1, 23, 4)", x.of(2, 1, 23, 4), 23);
      due("of(2, 2, 23, 4): the seam", x.of(2, 2, 23, 4), 23);
      due("of(2, 3, 23, 4)", x.of(2, 3, 23, 4), 23);
    });
    holds(19, "the new one's number; one and the same may be in both, sewn once", x -> {
      plain(x, 2, 1);
      plain(x, 2, 1);
      due("sew(0, 1)", x.sew(0, 1), 2);
      due("sew(2, 0)", x.sew(2, 0), 3);
      due("sew(3, 2)", x.sew(3, 2), 4);
      due("panelOf(4, 0)", x.panelOf(4, 0), 5);
    });
  }

  private static void match() {
    holds(20, "NONE: there is none such, ahead of any", x -> {
      for (int i : new int[] {LOW, -1, 0, 1, HIGH}) due("match(" + i + ")", x.match(i), NONE);
    });
    holds(20, "NONE: there is none such, ahead of any that was not refused", x -> {
      plain(x, 2, 1);
      plain(x, 5, 1);
      x.sew(0, 1);
      due("match(0)", x.match(0), NONE);
    });
    holds(20, "KNOT i of the lesser one: none behind the last", x -> {
      plain(x, 3, 1);
      plain(x, 2, 1);
      x.sew(0, 1);
      due("match(0)", x.match(0), 1);
      due("match(1)", x.match(1), 2);
      for (int i : new int[] {LOW, -1, 2, 3, 23, 24, HIGH}) due("match(" + i + ")", x.match(i), NONE);
    });
    holds(20, "in the latest SEWING: what is refused stays behind", x -> {
      plain(x, 3, 1);
      plain(x, 2, 1);
      x.sew(0, 1);
      plain(x, 4, 1);
      x.sew(1, 1);
      x.sew(2, 9);
      due("match(1)", x.match(1), 2);
      x.sew(1, 3);
      due("match(0)", x.match(0), 2);
      due("match(1)", x.match(1), 2);
      due("match(2)", x.match(2), NONE);
    });
    holds(20, "as it was: tearing and what comes behind it leave it", x -> {
      plain(x, 3, 1);
      plain(x, 2, 1);
      x.sew(0, 1);
      x.tear(2, 0);
      x.tear(0, 0);
      due("match(1)", x.match(1), 2);
    });
  }

  // ---- 21 to 25: hanging and fish

  private static void hang() {
    noSuchPanel(21, (x, p) -> one(x.hang(p, 1, 1)), 0);
    holds(21, "false: a is not 1 .. b", x -> {
      plain(x, 1, 1);
      for (int a : new int[] {LOW, -1, 0, 8, HIGH}) due("hang(0, " + a + ", 7)", x.hang(0, a, 7), false);
      due("panelOf(0, 4)", x.panelOf(0, 4), 1);
      due("hang(0, 7, 7)", x.hang(0, 7, 7), true);
      due("hang(0, 1, 7)", x.hang(0, 1, 7), true);
    });
    holds(21, "false: b not 1 .. 1000", x -> {
      plain(x, 1, 1);
      for (int b : new int[] {LOW, -1, 0, 1001, HIGH}) due("hang(0, 1, " + b + ")", x.hang(0, 1, b), false);
      due("panelOf(0, 4)", x.panelOf(0, 4), 1);
      due("hang(0, 1, 1000)", x.hang(0, 1, 1000), true);
      due("hang(0, 1000, 1000)", x.hang(0, 1000, 1000), true);
      due("hang(0, 1, 1)", x.hang(0, 1, 1), true);
    });
    holds(21, "of one PANEL alone", x -> {
      plain(x, 1, 1);
      plain(x, 1, 1);
      x.hang(1, 2, 5);
      due("panelOf(0, 4)", x.panelOf(0, 4), 1);
      due("panelOf(1, 4)", x.panelOf(1, 4), 5);
    });
  }

  private static void parts() {
    holds(22, "a row of n (0 .. 101)", x -> {
      due("parts(0)", x.parts(0), true);
      due("count(1)", x.count(1), 0);
      due("part(0, 0)", x.part(0, 0), false);
      due("parts(1)", x.parts(1), true);
      due("part(0, 0)", x.part(0, 0), true);
      due("part(1, 0)", x.part(1, 0), false);
      due("parts(101)", x.parts(101), true);
      due("count(1)", x.count(1), 101);
      due("part(100, 0)", x.part(100, 0), true);
    });
    holds(22, "0s, whatever they were", x -> {
      plain(x, 1, 1);
      x.part(100, 5);
      due("parts(101)", x.parts(101), true);
      due("open(0)", x.open(0), 0);
      x.part(100, 6);
      x.parts(50);
      x.parts(101);
      due("open(0): a shorter row keeps nothing", x.open(0), 0);
      x.part(100, 7);
      x.parts(NONE);
      x.parts(101);
      due("open(0): MISSING ones keep nothing", x.open(0), 0);
    });
    holds(22, "0s, the first one too", x -> {
      plain(x, 1, 1);
      x.hang(0, 1, 1000);
      x.part(0, 5);
      due("open(0)", x.open(0), 5);
      x.parts(101);
      due("open(0)", x.open(0), 0);
      x.part(0, 5);
      x.parts(1);
      due("open(0) of a row of 1", x.open(0), 0);
    });
    holds(22, "n NONE: they are MISSING: true", x -> {
      due("parts(-1)", x.parts(NONE), true);
      due("count(1)", x.count(1), NONE);
      due("parts(-1)", x.parts(NONE), true);
      due("count(1)", x.count(1), NONE);
      due("parts(2)", x.parts(2), true);
      due("count(1)", x.count(1), 2);
    });
    holds(22, "false for others", x -> {
      plain(x, 1, 1);
      x.part(100, 5);
      for (int n : new int[] {LOW, -3, -2, 102, 103, HIGH}) due("parts(" + n + ")", x.parts(n), false);
      due("count(1)", x.count(1), 101);
      due("open(0)", x.open(0), 5);
    });
  }

  private static void part() {
    holds(23, "false: there is none such", x -> {
      for (int i : new int[] {LOW, -1, 101, 102, HIGH}) due("part(" + i + ", 1)", x.part(i, 1), false);
      x.parts(40);
      due("part(39, 1)", x.part(39, 1), true);
      due("part(40, 1)", x.part(40, 1), false);
    });
    holds(23, "false: there is none such, where they are MISSING or none", x -> {
      x.parts(NONE);
      for (int i : new int[] {LOW, -2, -1, 0, 1, HIGH}) due("part(" + i + ", 1)", x.part(i, 1), false);
      x.parts(0);
      for (int i : new int[] {LOW, -1, 0, 1, HIGH}) due("part(" + i + ", 1)", x.part(i, 1), false);
    });
    holds(23, "false: v is not 0 .. 100", x -> {
      plain(x, 1, 1);
      due("part(100, 100)", x.part(100, 100), true);
      for (int v : new int[] {LOW, -1, 101, HIGH}) due("part(100, " + v + ")", x.part(100, v), false);
      due("open(0)", x.open(0), 100);
      due("part(100, 0)", x.part(100, 0), true);
      due("open(0)", x.open(0), 0);
    });
  }

  private static void open() {
    noSuchPanel(24, (x, p) -> x.open(p), NONE);
    holds(24, "-2: PARTS are MISSING", x -> {
      plain(x, 1, 1);
      x.parts(NONE);
      due("open(0)", x.open(0), -2);
    });
    holds(24, "-2: or have no such one", x -> {
      plain(x, 1, 1);
      x.parts(100);
      due("open(0)", x.open(0), -2);
      x.hang(0, 99, 100);
      due("open(0) at 99", x.open(0), 0);
      x.parts(0);
      x.hang(0, 1, 1000);
      due("open(0) at 0", x.open(0), -2);
      x.parts(1);
      due("open(0) at 0", x.open(0), 0);
    });
    holds(24, "NONE ahead of -2: no such PANEL, and PARTS are MISSING", x -> {
      x.parts(NONE);
      due("open(0)", x.open(0), NONE);
    });
  }

  private static void slips() {
    noSuchPanel(25, (x, p) -> x.slips(p, 1), NONE);
    holds(25, "GIRTH g (0 .. 1000000)", x -> {
      plain(x, 1, 1);
      x.part(100, 1);
      due("slips(0, 0)", x.slips(0, 0), 1);
      due("slips(0, 1000000)", x.slips(0, 1000000), 0);
    });
    holds(25, "NONE for another g, too", x -> {
      plain(x, 1, 1);
      x.part(100, 1);
      for (int g : new int[] {LOW, -1, 1000001, 42949673, HIGH}) due("slips(0, " + g + ")", x.slips(0, g), NONE);
    });
    holds(25, "-2 as open(): MISSING, no such one", x -> {
      plain(x, 1, 1);
      x.parts(NONE);
      due("slips(0, 0)", x.slips(0, 0), -2);
      due("slips(0, 1000000)", x.slips(0, 1000000), -2);
      x.parts(100);
      due("slips(0, 0)", x.slips(0, 0), -2);
      x.parts(101);
      due("slips(0, 0)", x.slips(0, 0), 0);
    });
    holds(25, "NONE as open(), ahead of -2", x -> {
      x.parts(NONE);
      due("slips(0, 0)", x.slips(0, 0), NONE);
    });
  }

  // ---- 26 to 31: pulls, loads and counts

  private static void pull() {
    noSuchPanel(26, (x, p) -> one(x.pull(p, 0, 1)), 0);
    holds(26, "false: there is none such", x -> {
      plain(x, 2, 1);
      for (int k : new int[] {LOW, -1, 2, 23, 24, HIGH}) due("pull(0, " + k + ", 1)", x.pull(0, k, 1), false);
      due("sum(0, 1, 0)", x.sum(0, 1, 0), 0);
    });
    holds(26, "false: v is not 0 .. 100", x -> {
      plain(x, 2, 1);
      due("pull(0, 1, 100)", x.pull(0, 1, 100), true);
      for (int v : new int[] {LOW, -1, 101, HIGH}) due("pull(0, 1, " + v + ")", x.pull(0, 1, v), false);
      due("load(0, 0, 1, 0)", x.load(0, 0, 1, 0), 100);
      due("pull(0, 1, 0)", x.pull(0, 1, 0), true);
      due("load(0, 0, 1, 0)", x.load(0, 0, 1, 0), 0);
    });
    holds(26, "KNOT k of ROW 0, though the last ROW has more or less", x -> {
      plain(x, 2, 1);
      x.kind(0, 1, GAIN);
      x.row(0);
      due("pull(0, 2, 1)", x.pull(0, 2, 1), false);
      plain(x, 2, 1);
      x.kind(1, 1, TAKE);
      x.row(1);
      due("pull(1, 1, 1)", x.pull(1, 1, 1), true);
    });
    holds(26, "false: ROW 0 is MISSING", x -> {
      plain(x, 2, 2);
      x.tear(0, 0);
      due("pull(0, 0, 1)", x.pull(0, 0, 1), false);
      due("pull(0, 1, 0)", x.pull(0, 1, 0), false);
    });
  }

  private static void load() {
    noSuchPanel(27, (x, p) -> x.load(p, 0, 0, 0), NONE);
    noSuchKnot(27, (x, r, k) -> x.load(0, r, k, 0), NONE);
    noSuchKnot(27, (x, r, k) -> x.load(0, r, k, 1), NONE);
    holds(27, "NONE: another what", x -> {
      plain(x, 1, 1);
      for (int what : new int[] {LOW, -1, 2, 3, HIGH}) due("load(0, 0, 0, " + what + ")", x.load(0, 0, 0, what), NONE);
    });
    holds(27, "in lowest terms: 2 / 4 is 1 / 2, 4 / 2 is 2 / 1", x -> {
      plain(x, 2, 3);
      x.pull(0, 1, 2);
      due("load(0, 1, 1, 0)", x.load(0, 1, 1, 0), 1);
      due("load(0, 1, 1, 1)", x.load(0, 1, 1, 1), 1);
      due("load(0, 2, 1, 0)", x.load(0, 2, 1, 0), 1);
      due("load(0, 2, 1, 1)", x.load(0, 2, 1, 1), 2);
      x.pull(0, 1, 4);
      due("load(0, 1, 1, 0)", x.load(0, 1, 1, 0), 2);
      due("load(0, 1, 1, 1)", x.load(0, 1, 1, 1), 1);
    });
    holds(27, "the lower part (1; 1 of 0)", x -> {
      plain(x, 2, 3);
      x.pull(0, 0, 5);
      due("load(0, 2, 1, 0)", x.load(0, 2, 1, 0), 0);
      due("load(0, 2, 1, 1)", x.load(0, 2, 1, 1), 1);
      due("load(0, 0, 1, 1)", x.load(0, 0, 1, 1), 1);
    });
    holds(27, "the LOAD as it is now: PULLS, SIDES and ROWS that changed since", x -> {
      plain(x, 1, 3);
      x.pull(0, 0, 5);
      due("load(0, 2, 0, 0)", x.load(0, 2, 0, 0), 5);
      x.pull(0, 0, 6);
      due("load(0, 2, 0, 0)", x.load(0, 2, 0, 0), 6);
      x.cut(0, 1, 0);
      due("load(0, 2, 0, 0)", x.load(0, 2, 0, 0), 0);
      x.mend(0, 1, 0);
      due("load(0, 2, 0, 0)", x.load(0, 2, 0, 0), 6);
      x.tear(0, 0);
      due("load(0, 2, 0, 0)", x.load(0, 2, 0, 0), 0);
    });
    holds(27, "of one PANEL: another one's PULLS are none of it", x -> {
      plain(x, 1, 2);
      plain(x, 1, 2);
      x.pull(0, 0, 5);
      due("load(0, 1, 0, 0)", x.load(0, 1, 0, 0), 5);
      due("load(1, 1, 0, 0)", x.load(1, 1, 0, 0), 0);
      due("sum(1, 1, 0)", x.sum(1, 1, 0), 0);
    });
  }

  private static void sum() {
    for (int at = 0; at < 2; at++) {
      int asked = at;
      noSuchPanel(28, (x, p) -> x.sum(p, asked, 0), NONE);
      noSuchPanel(28, (x, p) -> x.sum(p, asked, 1), NONE);
    }
    holds(28, "NONE: others", x -> {
      plain(x, 1, 1);
      for (int at : new int[] {LOW, -1, 2, 3, HIGH}) due("sum(0, " + at + ", 0)", x.sum(0, at, 0), NONE);
      for (int what : new int[] {LOW, -1, 2, 3, HIGH}) {
        due("sum(0, 0, " + what + ")", x.sum(0, 0, what), NONE);
        due("sum(0, 1, " + what + ")", x.sum(0, 1, what), NONE);
      }
    });
    holds(28, "likewise: 0 / 1 of nothing", x -> {
      plain(x, 1, 1);
      for (int at = 0; at < 2; at++) {
        due("sum(0, " + at + ", 0)", x.sum(0, at, 0), 0);
        due("sum(0, " + at + ", 1)", x.sum(0, at, 1), 1);
      }
    });
    holds(28, "likewise: in lowest terms", x -> {
      plain(x, 2, 2);
      x.pull(0, 1, 3);
      x.row(0);
      x.cut(0, 2, 0);
      // 100 has 3 / 2 and none hangs in it; 101 has 3 / 2
      for (int at = 0; at < 2; at++) {
        due("sum(0, " + at + ", 0)", x.sum(0, at, 0), 3);
        due("sum(0, " + at + ", 1)", x.sum(0, at, 1), 2);
      }
    });
    holds(28, "(What hangs over a MISSING ROW is LOST; KNOTS below such have 0)", x -> {
      plain(x, 2, 4);
      x.pull(0, 0, 4);
      x.pull(0, 1, 5);
      x.tear(0, 2);
      due("sum(0, 0, 0)", x.sum(0, 0, 0), 9);
      due("sum(0, 1, 0)", x.sum(0, 1, 0), 0);
      due("load(0, 1, 1, 0): over it all is led down", x.load(0, 1, 1, 0), 5);
      due("load(0, 3, 0, 0)", x.load(0, 3, 0, 0), 0);
      due("load(0, 3, 0, 1)", x.load(0, 3, 0, 1), 1);
    });
    holds(28, "a MISSING last ROW has no FOOT", x -> {
      plain(x, 2, 3);
      x.pull(0, 0, 4);
      x.tear(0, 2);
      due("sum(0, 1, 0)", x.sum(0, 1, 0), 0);
      due("sum(0, 1, 1)", x.sum(0, 1, 1), 1);
      due("sum(0, 0, 0)", x.sum(0, 0, 0), 4);
    });
    holds(28, "ROW 0 is MISSING, or all are: nothing is pulled any more", x -> {
      plain(x, 2, 2);
      x.pull(0, 0, 4);
      x.tear(0, 0);
      due("sum(0, 0, 0)", x.sum(0, 0, 0), 0);
      due("sum(0, 1, 0)", x.sum(0, 1, 0), 0);
      x.tear(0, 1);
      due("sum(0, 0, 0)", x.sum(0, 0, 0), 0);
      due("sum(0, 1, 0)", x.sum(0, 1, 0), 0);
    });
  }

  private static void weak() {
    noSuchPanel(29, (x, p) -> x.weak(p), NONE);
    holds(29, "NONE: none is", x -> {
      x.panel(2, 1, 5);
      due("weak(0)", x.weak(0), NONE);
      x.pull(0, 1, 5);
      due("weak(0)", x.weak(0), NONE);
      x.pull(0, 1, 6);
      due("weak(0)", x.weak(0), 1);
    });
    holds(29, "none of a ROW that is MISSING, none below it", x -> {
      x.panel(1, 1, 5);
      x.row(0);
      x.row(0);
      x.pull(0, 0, 6);
      due("weak(0)", x.weak(0), 0);
      x.tear(0, 0);
      due("weak(0)", x.weak(0), NONE);
    });
    holds(29, "the last ROW's are looked at, too", x -> {
      x.panel(2, 1, 10);
      x.kind(0, 1, TAKE);
      x.row(0);
      x.pull(0, 0, 10);
      x.pull(0, 1, 1);
      due("weak(0)", x.weak(0), 100);
    });
  }

  private static void count() {
    holds(30, "0 PANELS", x -> {
      due("count(0)", x.count(0), 0);
      for (int p = 0; p < 12; p++) {
        plain(x, 1, 1);
        due("count(0)", x.count(0), p + 1);
      }
    });
    holds(30, "1 PARTS (NONE: MISSING)", x -> {
      due("count(1)", x.count(1), 101);
      x.parts(0);
      due("count(1)", x.count(1), 0);
      x.parts(NONE);
      due("count(1)", x.count(1), NONE);
    });
    holds(30, "2 KNOTS of the WAY at hand", x -> {
      due("count(2) ahead of any", x.count(2), 0);
      plain(x, 1, 2);
      x.cut(0, 1, 0);
      x.hole(0, 1, 0);
      due("count(2) of a HOLE alone", x.count(2), 0);
      x.mend(0, 1, 0);
      due("count(2)", x.count(2), 2);
    });
    holds(30, "NONE for others", x -> {
      for (int what : new int[] {LOW, -1, 3, 4, HIGH}) due("count(" + what + ")", x.count(what), NONE);
    });
  }

  private static void panelOf() {
    for (int what = 0; what < 9; what++) {
      int asked = what;
      noSuchPanel(31, (x, p) -> x.panelOf(p, asked), NONE);
    }
    holds(31, "NONE for others", x -> {
      plain(x, 1, 1);
      for (int what : new int[] {LOW, -1, 9, 10, HIGH}) due("panelOf(0, " + what + ")", x.panelOf(0, what), NONE);
    });
    holds(31, "HANGING's a, b (3, 4: as told), not in lowest terms", x -> {
      plain(x, 1, 1);
      x.hang(0, 500, 1000);
      due("panelOf(0, 3)", x.panelOf(0, 3), 500);
      due("panelOf(0, 4)", x.panelOf(0, 4), 1000);
    });
    holds(31, "KNOTS (5), NEEDLES (6), SIDES (7), GONE ones (8): of one ROW, of all", x -> {
      plain(x, 24, 1);
      int[] one = {1, 10, 50, 1, 1, 24, 0, 0, 0};
      for (int what = 0; what < 9; what++) due("panelOf(0, " + what + ")", x.panelOf(0, what), one[what]);
      for (int r = 1; r < 20; r++) x.row(0);
      x.needle(0, 0, 0, true);
      x.needle(0, 19, 23, true);
      x.cut(0, 19, 0);
      int[] all = {20, 10, 50, 1, 1, 480, 2, 893, 2};
      for (int what = 0; what < 9; what++) due("panelOf(0, " + what + ")", x.panelOf(0, what), all[what]);
    });
  }

  /** An object is used for 512 calls: the fullest one stands to the last. */
  private static void longUse() {
    holds(31, "12 PANELS of 20 ROWS of 24, at the 512th call", x -> {
      for (int p = 0; p < 12; p++) {
        x.panel(24, 1000, 1000000);
        x.shape(p, 19, 24, p % 2 == 0 ? TAKE : GAIN);
        x.row(p);
      }
      // 36 calls so far; a GAIN of 24 would come to 25, so those PANELS have 2 ROWS
      for (int call = 36; call < 511; call++) x.cut(call % 12, call % 20, call % 23);
      due("panelOf(10, 5)", x.panelOf(10, 5), 24 + 19 * 23);
    });
  }
}
