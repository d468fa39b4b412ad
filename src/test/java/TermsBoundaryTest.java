import java.util.function.Consumer;

/** Each sentence of the Terms I to IV that names a boundary has a test of its own here, on a new object. */
public final class TermsBoundaryTest {
  private static final int NONE = NetLoft.NONE;
  private static final int PLAIN = 0;
  private static final int GAIN = 1;
  private static final int TAKE = 2;
  private static final int SEWN = 3;
  private static int wrong = 0;
  private static int sentences = 0;
  private static String sentence = "";

  public static void main(String[] args) {
    panels();
    gives();
    hangsIn();
    hung();
    shaping();
    taper();
    sewing();
    sewnPanel();
    seam();
    holes();
    twines();
    mendingAtBounds();
    wayThatComesFirst();
    opening();
    slipping();
    loads();
    lostAndFoot();
    weak();
    System.out.println(wrong == 0 ? "all " + sentences + " sentences of the Terms hold" : wrong + " answers are not as due");
    if (wrong != 0) System.exit(1);
  }

  private static void holds(String words, Consumer<NetLoft> calls) {
    sentence = words;
    sentences++;
    calls.accept(new NetLoft());
  }

  private static void due(String call, long got, long want) {
    if (got == want) return;
    wrong++;
    System.out.println("'" + sentence + "': " + call + " answered " + got + ", due is " + want);
  }

  private static void due(String call, boolean got, boolean want) {
    due(call, got ? 1 : 0, want ? 1 : 0);
  }

  private static int plain(NetLoft x, int w, int rows) {
    int p = x.panel(w, 10, 50);
    for (int r = 1; r < rows; r++) due("row(" + p + ")", x.row(p), w);
    return p;
  }

  /** A PANEL of one ROW of such KINDS. */
  private static int ofKinds(NetLoft x, int... kinds) {
    int p = x.panel(kinds.length, 10, 50);
    for (int k = 0; k < kinds.length; k++) due("kind(" + p + ", " + k + ", " + kinds[k] + ")", x.kind(p, k, kinds[k]), true);
    return p;
  }

  private static void row(NetLoft x, int p, int r, int what, int... want) {
    due("meshes(" + p + ", " + r + ")", x.meshes(p, r), want.length);
    for (int k = 0; k < want.length; k++) due("of(" + p + ", " + r + ", " + k + ", " + what + ")", x.of(p, r, k, what), want[k]);
  }

  /** A KNOT hangs in just these places, from the left. */
  private static void knot(NetLoft x, int p, int r, int k, int... places) {
    String asked = "of(" + p + ", " + r + ", " + k + ", ";
    due(asked + "2)", x.of(p, r, k, 2), places.length);
    due(asked + "4)", x.of(p, r, k, 4), places.length == 0 ? NONE : places[0]);
    for (int s = 0; s < places.length; s++) due(asked + (10 + s) + ")", x.of(p, r, k, 10 + s), places[s]);
    due(asked + (10 + places.length) + ")", x.of(p, r, k, 10 + places.length), NONE);
  }

  private static void load(NetLoft x, int p, int r, int k, long upper, long lower) {
    due("load(" + p + ", " + r + ", " + k + ", 0)", x.load(p, r, k, 0), upper);
    due("load(" + p + ", " + r + ", " + k + ", 1)", x.load(p, r, k, 1), lower);
  }

  private static void sum(NetLoft x, int p, int at, long upper, long lower) {
    due("sum(" + p + ", " + at + ", 0)", x.sum(p, at, 0), upper);
    due("sum(" + p + ", " + at + ", 1)", x.sum(p, at, 1), lower);
  }

  private static void way(NetLoft x, int... codes) {
    for (int i = 0; i < codes.length; i++) due("way(" + i + ")", x.way(i), codes[i]);
    due("way(" + codes.length + ")", x.way(codes.length), NONE);
    due("count(2)", x.count(2), codes.length);
  }

  private static void knotsOfHole(NetLoft x, int... codes) {
    for (int i = 0; i < codes.length; i++) due("edge(" + i + ", 0)", x.edge(i, 0), codes[i]);
    due("edge(" + codes.length + ", 0)", x.edge(codes.length, 0), NONE);
  }

  /** SIDES that are GONE, each as r, k, s. */
  private static void gone(NetLoft x, int p, int[]... sides) {
    for (int[] s : sides) due("side(" + p + ", " + s[0] + ", " + s[1] + ", " + s[2] + ")", x.side(p, s[0], s[1], s[2], false), true);
  }

  // ---- I

  private static void panels() {
    holds("PANELS, numbered from 0 on, 12 at most", x -> {
      for (int p = 0; p < 12; p++) due("panel " + p, x.panel(1, 1, 1), p);
      due("a 13th panel", x.panel(1, 1, 1), NONE);
      due("count(0)", x.count(0), 12);
      due("panelOf(11, 0)", x.panelOf(11, 0), 1);
      due("panelOf(12, 0)", x.panelOf(12, 0), NONE);
    });
    holds("ROWS, numbered from 0 (the top) on, 20 at most", x -> {
      plain(x, 2, 20);
      due("a 21st row", x.row(0), NONE);
      due("panelOf(0, 0)", x.panelOf(0, 0), 20);
      due("meshes(0, 19)", x.meshes(0, 19), 2);
      due("meshes(0, 20)", x.meshes(0, 20), NONE);
    });
    holds("PLACES, numbered from 0 (the left) on, 1 .. 24 at most", x -> {
      due("panel of 1", x.panel(1, 1, 1), 0);
      due("panel of 24", x.panel(24, 1, 1), 1);
      due("of(0, 0, 0, 0)", x.of(0, 0, 0, 0), PLAIN);
      due("of(0, 0, 1, 0)", x.of(0, 0, 1, 0), NONE);
      due("of(1, 0, 23, 0)", x.of(1, 0, 23, 0), PLAIN);
      due("of(1, 0, 24, 0)", x.of(1, 0, 24, 0), NONE);
    });
    holds("A ROW may be MISSING (torn out): then it has no PLACES any more", x -> {
      plain(x, 1, 3);
      x.tear(0, 1);
      due("meshes(0, 1)", x.meshes(0, 1), 0);
      due("of(0, 1, 0, 0)", x.of(0, 1, 0, 0), NONE);
      due("panelOf(0, 0): the ROW counts on", x.panelOf(0, 0), 3);
      due("meshes(0, 2): numbered as it was", x.meshes(0, 2), 1);
    });
    holds("a BAR, 1 .. 1000", x -> {
      due("bar 1", x.panel(1, 1, 1), 0);
      due("bar 1000", x.panel(1, 1000, 1), 1);
      due("panelOf(0, 1)", x.panelOf(0, 1), 1);
      due("panelOf(1, 1)", x.panelOf(1, 1), 1000);
      due("bar 0", x.panel(1, 0, 1), NONE);
      due("bar 1001", x.panel(1, 1001, 1), NONE);
    });
    holds("a STRENGTH, 1 .. 1000000", x -> {
      due("strength 1", x.panel(1, 1, 1), 0);
      due("strength 1000000", x.panel(1, 1, 1000000), 1);
      due("panelOf(0, 2)", x.panelOf(0, 2), 1);
      due("panelOf(1, 2)", x.panelOf(1, 2), 1000000);
      due("strength 0", x.panel(1, 1, 0), NONE);
      due("strength 1000001", x.panel(1, 1, 1000001), NONE);
    });
    holds("a HANGING, a fraction (1 / 1 at first)", x -> {
      plain(x, 1, 1);
      due("panelOf(0, 3)", x.panelOf(0, 3), 1);
      due("panelOf(0, 4)", x.panelOf(0, 4), 1);
    });
    holds("PULLS at the KNOTS of ROW 0 (0 at first)", x -> {
      plain(x, 24, 1);
      for (int k = 0; k < 24; k++) load(x, 0, 0, k, 0, 1);
    });
    holds("on that may lie a NEEDLE", x -> {
      plain(x, 2, 1);
      row(x, 0, 0, 5, 0, 0);
    });
  }

  private static void gives() {
    holds("KNOTS are of KIND 0 PLAIN (at first)", x -> {
      plain(x, 3, 2);
      row(x, 0, 0, 0, PLAIN, PLAIN, PLAIN);
      row(x, 0, 1, 0, PLAIN, PLAIN, PLAIN);
    });
    holds("PLAIN 1, GAIN 2, TAKE 0", x -> {
      ofKinds(x, PLAIN, GAIN, TAKE);
      row(x, 0, 0, 1, 1, 2, 0);
    });
    holds("SEWN as II tells", x -> {
      x.panel(2, 1, 1);
      x.panel(3, 1, 1);
      x.sew(0, 1);
      row(x, 2, 0, 0, SEWN, SEWN);
      row(x, 2, 0, 1, 1, 2);
    });
    holds("(A KNOT at PLACE 0 GIVES 1 at least.)", x -> {
      plain(x, 1, 1);
      due("kind(0, 0, 2)", x.kind(0, 0, TAKE), false);
      due("of(0, 0, 0, 1)", x.of(0, 0, 0, 1), 1);
      due("shape(0, 1, 1, 2)", x.shape(0, 1, 1, TAKE), 1);
      due("of(0, 0, 0, 1)", x.of(0, 0, 0, 1), 1);
    });
  }

  private static void hangsIn() {
    holds("its FIRST one: where there is no other, the last PLACE hangs in this alone", x -> {
      plain(x, 1, 2);
      knot(x, 0, 1, 0, 0);
      plain(x, 24, 2);
      knot(x, 1, 1, 22, 22, 23);
      knot(x, 1, 1, 23, 23);
    });
    holds("all behind that up to (not with) the next one that GIVES 1 or more", x -> {
      ofKinds(x, GAIN, TAKE, TAKE, PLAIN);
      due("row(0)", x.row(0), 3);
      knot(x, 0, 1, 0, 0, 1, 2);
    });
    holds("and then that one, too, if it is the last of those that its FIRST one GIVES", x -> {
      ofKinds(x, GAIN, TAKE, TAKE, PLAIN);
      x.row(0);
      knot(x, 0, 1, 1, 0, 1, 2, 3);
      ofKinds(x, GAIN, GAIN);
      x.row(1);
      knot(x, 1, 1, 0, 0);
      knot(x, 1, 1, 1, 0, 1);
      knot(x, 1, 1, 2, 1);
      knot(x, 1, 1, 3, 1);
    });
    holds("and there is such a next one: not behind the last that GIVES", x -> {
      ofKinds(x, PLAIN, GAIN, TAKE, TAKE);
      due("row(0)", x.row(0), 3);
      knot(x, 0, 1, 0, 0, 1);
      knot(x, 0, 1, 1, 1, 2, 3);
      knot(x, 0, 1, 2, 1, 2, 3);
    });
    holds("all TAKES behind the first: one KNOT hangs in a whole ROW", x -> {
      int[] kinds = new int[24];
      for (int k = 1; k < 24; k++) kinds[k] = TAKE;
      ofKinds(x, kinds);
      due("row(0)", x.row(0), 1);
      due("of(0, 1, 0, 2)", x.of(0, 1, 0, 2), 24);
      due("of(0, 1, 0, 33)", x.of(0, 1, 0, 33), 23);
      due("of(0, 1, 0, 34)", x.of(0, 1, 0, 34), NONE);
    });
    holds("a KNOT's own SIDES are numbered from 0 on from the left", x -> {
      plain(x, 3, 2);
      due("side(0, 1, 1, 0)", x.side(0, 1, 1, 0, false), true);
      due("side(0, 1, 1, 1)", x.side(0, 1, 1, 1, false), true);
      due("side(0, 1, 1, 2)", x.side(0, 1, 1, 2, false), false);
      row(x, 0, 0, 6, 0, 1, 1);
    });
    holds("ROW 0 has none", x -> {
      plain(x, 2, 1);
      knot(x, 0, 0, 0);
      knot(x, 0, 0, 1);
      due("side(0, 0, 0, 0)", x.side(0, 0, 0, 0, false), false);
      due("panelOf(0, 7)", x.panelOf(0, 7), 0);
    });
  }

  private static void hung() {
    holds("A ROW is HUNG: as many PLACES as that one's KNOTS GIVE together", x -> {
      ofKinds(x, GAIN, TAKE, TAKE, GAIN, PLAIN);
      due("row(0)", x.row(0), 5);
      ofKinds(x, PLAIN);
      due("row(1)", x.row(1), 1);
    });
    holds("up to 24 PLACES can be HUNG, 25 can't", x -> {
      int[] kinds = new int[13];
      java.util.Arrays.fill(kinds, 0, 12, GAIN);
      ofKinds(x, kinds);
      due("row(0) of 25", x.row(0), NONE);
      due("meshes(0, 1)", x.meshes(0, 1), NONE);
      x.kind(0, 12, TAKE);
      due("row(0) of 24", x.row(0), 24);
    });
    holds("PLAIN, all SIDES whole", x -> {
      ofKinds(x, GAIN, TAKE);
      x.row(0);
      x.cut(0, 1, 0);
      x.needle(0, 1, 0, true);
      due("row(0)", x.row(0), 2);
      row(x, 0, 2, 0, PLAIN, PLAIN);
      row(x, 0, 2, 3, 0, 0);
      row(x, 0, 2, 5, 0, 0);
    });
  }

  // ---- II: shaping, tapering, sewing

  private static void shaping() {
    holds("EVERY e (1 .. 24): e 1 turns each one", x -> {
      plain(x, 3, 1);
      due("shape(0, 1, 1, 1)", x.shape(0, 1, 1, GAIN), 6);
      row(x, 0, 0, 0, GAIN, GAIN, GAIN);
    });
    holds("EVERY e (1 .. 24): e 24 turns the last of 24", x -> {
      plain(x, 24, 1);
      due("shape(0, 1, 24, 2)", x.shape(0, 1, 24, TAKE), 23);
      due("of(0, 0, 23, 0)", x.of(0, 0, 23, 0), TAKE);
      due("of(0, 0, 22, 0)", x.of(0, 0, 22, 0), PLAIN);
    });
    holds("EVERY e (1 .. 24): 0, 25 are none", x -> {
      plain(x, 3, 1);
      due("shape(0, 1, 0, 1)", x.shape(0, 1, 0, GAIN), NONE);
      due("shape(0, 1, 25, 1)", x.shape(0, 1, 25, GAIN), NONE);
    });
    holds("KIND 1 or 2", x -> {
      plain(x, 3, 1);
      due("shape of PLAIN", x.shape(0, 1, 1, PLAIN), NONE);
      due("shape of SEWN", x.shape(0, 1, 1, SEWN), NONE);
    });
    holds("its KNOTS at PLACES e - 1, 2 e - 1, ..", x -> {
      plain(x, 8, 1);
      due("shape(0, 1, 3, 1)", x.shape(0, 1, 3, GAIN), 10);
      row(x, 0, 0, 0, PLAIN, PLAIN, GAIN, PLAIN, PLAIN, GAIN, PLAIN, PLAIN);
    });
    holds("an e above the ROW turns none", x -> {
      plain(x, 3, 1);
      due("shape(0, 1, 4, 2)", x.shape(0, 1, 4, TAKE), 3);
      row(x, 0, 0, 0, PLAIN, PLAIN, PLAIN);
    });
    holds("TAKE not at PLACE 0", x -> {
      plain(x, 3, 1);
      due("shape(0, 1, 1, 2)", x.shape(0, 1, 1, TAKE), 1);
      row(x, 0, 0, 0, PLAIN, TAKE, TAKE);
      due("shape(0, 1, 1, 1)", x.shape(0, 1, 1, GAIN), 2);
      row(x, 0, 1, 0, GAIN);
    });
    holds("the others PLAIN", x -> {
      ofKinds(x, GAIN, GAIN, TAKE, TAKE);
      due("shape(0, 1, 2, 2)", x.shape(0, 1, 2, TAKE), 2);
      row(x, 0, 0, 0, PLAIN, TAKE, PLAIN, TAKE);
    });
    holds("a TAKE at PLACE 0 is one of the others: a GAIN there becomes PLAIN", x -> {
      ofKinds(x, GAIN, GAIN);
      due("shape(0, 1, 1, 2)", x.shape(0, 1, 1, TAKE), 1);
      row(x, 0, 0, 0, PLAIN, TAKE);
    });
    holds("then a ROW is HUNG: its own KNOTS stay PLAIN", x -> {
      plain(x, 2, 1);
      due("shape(0, 1, 1, 1)", x.shape(0, 1, 1, GAIN), 4);
      row(x, 0, 1, 0, PLAIN, PLAIN, PLAIN, PLAIN);
    });
  }

  private static void cycleIs(NetLoft x, int... want) {
    for (int what = 0; what < 4; what++) due("cycle(" + what + ")", x.cycle(what), want[what]);
  }

  private static void taper() {
    holds("meshes (1 .. 1000)", x -> {
      due("taper(1, 1, 1)", x.taper(1, 1, 1), 1);
      due("taper(1000, 1000, 1)", x.taper(1000, 1000, 1), 1);
      due("taper(1000, 1, 1)", x.taper(1000, 1, 1), 1);
      due("taper(1, 0, 1)", x.taper(1, 0, 1), NONE);
      due("taper(0, 0, 1)", x.taper(0, 0, 1), NONE);
      due("taper(1001, 1, 1)", x.taper(1001, 1, 1), NONE);
      due("taper(1001, 1001, 1)", x.taper(1001, 1001, 1), NONE);
    });
    holds("v not above w", x -> {
      due("taper(7, 7, 3)", x.taper(7, 7, 3), 1);
      due("taper(7, 8, 3)", x.taper(7, 8, 3), NONE);
    });
    holds("in d ROWS (1 .. 400)", x -> {
      due("taper(9, 8, 1)", x.taper(9, 8, 1), 1);
      due("taper(9, 8, 400)", x.taper(9, 8, 400), 201);
      due("taper(9, 8, 0)", x.taper(9, 8, 0), NONE);
      due("taper(9, 8, 401)", x.taper(9, 8, 401), NONE);
    });
    holds("just w - v are taken: none of alike ones", x -> {
      due("taper(5, 5, 400)", x.taper(5, 5, 400), 1);
      cycleIs(x, 1, 0, 400, 0);
    });
    holds("a CYCLE may take more than one a ROW", x -> {
      due("taper(1000, 1, 3)", x.taper(1000, 1, 3), 1);
      cycleIs(x, 1, 333, 3, 0);
    });
    holds("that with the least l (1 .. d): it may need d", x -> {
      // 2 in 3 ROWS: l 1 takes 0 or 3; l 2 takes 1 (t 1) or 3 (t 2); l 3, t 2 takes 0, 1, 1
      due("taper(4, 2, 3)", x.taper(4, 2, 3), 3);
      cycleIs(x, 3, 2, 1, 0);
    });
    holds("the whole part: what a CYCLE cut short takes", x -> {
      // l 2, t 1 takes 0, 1, 0, 1, 0
      due("taper(9, 7, 5)", x.taper(9, 7, 5), 2);
      cycleIs(x, 2, 1, 2, 1);
      // 3 in 5: l 1 takes 5 a t; l 2: t 1 takes 2, t 2 takes 5; l 3: t 2 takes 0, 1, 1, 0, 1
      due("taper(9, 6, 5)", x.taper(9, 6, 5), 3);
      cycleIs(x, 3, 2, 1, 2);
    });
  }

  private static void sewing() {
    holds("neither above twice the other: just twice below", x -> {
      x.panel(12, 1, 1);
      x.panel(24, 1, 1);
      due("sew(0, 1)", x.sew(0, 1), 2);
      for (int i = 0; i < 12; i++) due("match(" + i + ")", x.match(i), 2);
      due("match(12)", x.match(12), NONE);
    });
    holds("neither above twice the other: just twice above", x -> {
      x.panel(24, 1, 1);
      x.panel(12, 1, 1);
      due("sew(0, 1)", x.sew(0, 1), 2);
      for (int i = 0; i < 12; i++) due("match(" + i + ")", x.match(i), 2);
      due("match(12)", x.match(12), NONE);
    });
    holds("neither above twice the other: one more than twice", x -> {
      x.panel(11, 1, 1);
      x.panel(23, 1, 1);
      due("sew(0, 1)", x.sew(0, 1), NONE);
      due("sew(1, 0)", x.sew(1, 0), NONE);
    });
    holds("neither above twice the other: of 1 and 1, 1 and 2, 1 and 3", x -> {
      for (int w = 1; w <= 3; w++) x.panel(w, 1, 1);
      x.panel(1, 1, 1);
      due("sew(0, 3)", x.sew(0, 3), 4);
      due("sew(0, 1)", x.sew(0, 1), 5);
      due("sew(1, 0)", x.sew(1, 0), 6);
      due("sew(0, 2)", x.sew(0, 2), NONE);
      due("sew(2, 0)", x.sew(2, 0), NONE);
    });
    holds("KNOT i takes the whole part of (i + 1) * M / N less that of i * M / N", x -> {
      x.panel(7, 1, 1);
      x.panel(10, 1, 1);
      due("sew(0, 1)", x.sew(0, 1), 2);
      // the whole parts are 0 1 2 4 5 7 8 10
      int[] took = {1, 1, 2, 1, 2, 1, 2};
      for (int i = 0; i < 7; i++) due("match(" + i + ")", x.match(i), took[i]);
    });
    holds("of the first one, if they are alike", x -> {
      x.panel(24, 1, 1);
      x.panel(24, 1, 1);
      due("sew(0, 1)", x.sew(0, 1), 2);
      for (int k = 0; k < 24; k++) {
        due("match(" + k + ")", x.match(k), 1);
        due("of(2, 0, " + k + ", 1)", x.of(2, 0, k, 1), 1);
      }
      due("match(24)", x.match(24), NONE);
    });
    holds("the last ROW of a PANEL to the first of another one", x -> {
      ofKinds(x, GAIN, GAIN);
      x.row(0);
      ofKinds(x, GAIN, GAIN, GAIN, GAIN, GAIN);
      x.row(1);
      due("sew(0, 1): 4 to 5", x.sew(0, 1), 2);
      due("sew(1, 0): 10 to 2", x.sew(1, 0), NONE);
      int[] meshes = {2, 4, 5, 10};
      for (int r = 0; r < 4; r++) due("meshes(2, " + r + ")", x.meshes(2, r), meshes[r]);
    });
  }

  private static void sewnPanel() {
    holds("It makes a new PANEL: the two stay as they are", x -> {
      ofKinds(x, PLAIN, GAIN);
      x.panel(2, 1, 1);
      due("sew(0, 1)", x.sew(0, 1), 2);
      row(x, 0, 0, 0, PLAIN, GAIN);
      row(x, 0, 0, 1, 1, 2);
      due("panelOf(0, 0)", x.panelOf(0, 0), 1);
      knot(x, 1, 0, 0);
      due("row(0)", x.row(0), 3);
      due("meshes(2, 1)", x.meshes(2, 1), 2);
    });
    holds("with BAR, STRENGTH, HANGING of the first one", x -> {
      x.panel(1, 2, 3);
      x.hang(0, 4, 8);
      x.panel(1, 5, 6);
      x.hang(1, 7, 9);
      due("sew(1, 0)", x.sew(1, 0), 2);
      int[] want = {2, 5, 6, 7, 9};
      for (int what = 0; what < 5; what++) due("panelOf(2, " + what + ")", x.panelOf(2, what), want[what]);
      x.hang(1, 1, 1);
      due("panelOf(2, 4)", x.panelOf(2, 4), 9);
    });
    holds("no PULLS", x -> {
      plain(x, 1, 1);
      plain(x, 1, 1);
      x.pull(0, 0, 5);
      x.pull(1, 0, 6);
      x.sew(0, 1);
      load(x, 2, 0, 0, 0, 1);
      load(x, 2, 1, 0, 0, 1);
      load(x, 0, 0, 0, 5, 1);
      load(x, 1, 0, 0, 6, 1);
    });
    holds("of all ROWS of both, KNOTS, NEEDLES, SIDES, MISSING ones as they are", x -> {
      ofKinds(x, GAIN, TAKE);
      x.row(0);
      x.row(0);
      x.needle(0, 1, 1, true);
      gone(x, 0, new int[] {2, 0, 1});
      ofKinds(x, PLAIN, GAIN);
      x.row(1);
      x.row(1);
      x.kind(1, 2, TAKE);
      x.tear(1, 1);
      x.needle(1, 2, 0, true);
      due("sew(0, 1)", x.sew(0, 1), 2);
      row(x, 2, 0, 0, GAIN, TAKE);
      row(x, 2, 1, 5, 0, 1);
      row(x, 2, 2, 3, 1, 0);
      row(x, 2, 3, 0, PLAIN, GAIN);
      row(x, 2, 4, 0);
      row(x, 2, 5, 0, PLAIN, PLAIN, TAKE);
      row(x, 2, 5, 5, 1, 0, 0);
      knot(x, 2, 5, 0);
      due("row(2): as the last ROW of the second one GIVES", x.row(2), 2);
    });
    holds("20 ROWS may come, 21 may not", x -> {
      plain(x, 1, 10);
      plain(x, 1, 10);
      due("sew(0, 1)", x.sew(0, 1), 2);
      due("panelOf(2, 0)", x.panelOf(2, 0), 20);
      x.row(1);
      due("sew(0, 1) of 21", x.sew(0, 1), NONE);
      due("sew(1, 0) of 21", x.sew(1, 0), NONE);
    });
  }

  private static void seam() {
    holds("the KNOTS of the seam's upper ROW are SEWN: a NEEDLE on them stays", x -> {
      ofKinds(x, GAIN, TAKE);
      x.needle(0, 0, 1, true);
      plain(x, 2, 1);
      x.sew(0, 1);
      row(x, 2, 0, 0, SEWN, SEWN);
      row(x, 2, 0, 5, 0, 1);
      row(x, 2, 1, 0, PLAIN, PLAIN);
    });
    holds("where that is the lesser one, they GIVE as many as each takes", x -> {
      plain(x, 3, 1);
      plain(x, 4, 1);
      x.sew(0, 1);
      row(x, 2, 0, 1, 1, 1, 2);
      knot(x, 2, 1, 0, 0, 1);
      knot(x, 2, 1, 1, 1, 2);
      knot(x, 2, 1, 2, 2);
      knot(x, 2, 1, 3, 2);
    });
    holds("else of those that one below takes the first GIVES 1, the others 0", x -> {
      plain(x, 4, 1);
      plain(x, 3, 1);
      x.sew(0, 1);
      row(x, 2, 0, 1, 1, 1, 1, 0);
      knot(x, 2, 1, 0, 0, 1);
      knot(x, 2, 1, 1, 1, 2);
      knot(x, 2, 1, 2, 2, 3);
    });
    holds("just twice above: every second one GIVES 0, and a KNOT hangs in three", x -> {
      plain(x, 4, 1);
      plain(x, 2, 1);
      x.sew(0, 1);
      row(x, 2, 0, 1, 1, 0, 1, 0);
      knot(x, 2, 1, 0, 0, 1, 2);
      knot(x, 2, 1, 1, 2, 3);
    });
    holds("just twice below: each one GIVES 2", x -> {
      plain(x, 2, 1);
      plain(x, 4, 1);
      x.sew(0, 1);
      row(x, 2, 0, 1, 2, 2);
      knot(x, 2, 1, 0, 0);
      knot(x, 2, 1, 1, 0, 1);
      knot(x, 2, 1, 2, 1);
      knot(x, 2, 1, 3, 1);
    });
    holds("The SIDES of the seam are whole", x -> {
      plain(x, 2, 1);
      plain(x, 2, 2);
      x.cut(1, 0, 0);
      x.sew(0, 1);
      row(x, 2, 1, 3, 0, 0);
      row(x, 2, 2, 3, 1, 0);
      due("panelOf(2, 7)", x.panelOf(2, 7), 6);
      due("panelOf(2, 8)", x.panelOf(2, 8), 1);
    });
  }

  // ---- III: holes and their mending

  private static void holes() {
    holds("KNOTS with a GONE SIDE between them are of one HOLE: asked from either end", x -> {
      plain(x, 2, 2);
      gone(x, 0, new int[] {1, 1, 0});
      due("hole(0, 1, 1)", x.hole(0, 1, 1), 2);
      knotsOfHole(x, 1, 101);
      due("hole(0, 0, 1)", x.hole(0, 0, 1), 2);
      knotsOfHole(x, 1, 101);
      due("hole(0, 0, 0)", x.hole(0, 0, 0), 0);
    });
    holds("so are those that are led to one another by such", x -> {
      plain(x, 3, 3);
      gone(x, 0, new int[] {1, 0, 0}, new int[] {1, 0, 1}, new int[] {1, 1, 0}, new int[] {2, 1, 0});
      due("hole(0, 0, 0)", x.hole(0, 0, 0), 5);
      knotsOfHole(x, 0, 1, 100, 101, 201);
      due("hole(0, 2, 1)", x.hole(0, 2, 1), 5);
      knotsOfHole(x, 0, 1, 100, 101, 201);
    });
    holds("another HOLE beside it is none of it", x -> {
      plain(x, 3, 2);
      gone(x, 0, new int[] {1, 0, 0}, new int[] {1, 1, 0});
      due("hole(0, 1, 0)", x.hole(0, 1, 0), 2);
      knotsOfHole(x, 0, 100);
      due("hole(0, 1, 1)", x.hole(0, 1, 1), 2);
      knotsOfHole(x, 1, 101);
    });
    holds("a HOLE is of one PANEL", x -> {
      plain(x, 1, 2);
      plain(x, 1, 2);
      gone(x, 1, new int[] {1, 0, 0});
      due("hole(0, 1, 0)", x.hole(0, 1, 0), 0);
      due("hole(1, 1, 0)", x.hole(1, 1, 0), 2);
    });
    holds("the greatest HOLE: all of 20 ROWS of 24", x -> {
      plain(x, 24, 20);
      for (int r = 1; r < 20; r += 2) {
        for (int k = 0; k < 24; k++) x.cut(0, r, k);
      }
      due("hole(0, 19, 23)", x.hole(0, 19, 23), 480);
      due("edge(0, 0)", x.edge(0, 0), 0);
      due("edge(479, 0)", x.edge(479, 0), 1923);
      due("edge(480, 0)", x.edge(480, 0), NONE);
      due("edge(0, 2)", x.edge(0, 2), 19 * 47);
      due("panelOf(0, 8)", x.panelOf(0, 8), 19 * 47);
      // odd: 0 in ROW 0 (1), 23 in ROWS 1 .. 18 (3), 23 in ROW 19 (1); 0 in ROWS 1 .. 18 (3)
      due("edge(0, 3)", x.edge(0, 3), 38);
      due("mend(0, 5, 5)", x.mend(0, 5, 5), 19);
    });
  }

  private static void twines() {
    holds("ODD ones have an odd number of GONE SIDES: 1 and 3, not 2 and 4", x -> {
      plain(x, 3, 3);
      x.cut(0, 1, 1);
      due("hole(0, 1, 1)", x.hole(0, 1, 1), 5);
      int[] odd = {1, 1, 0, 1, 1};
      for (int i = 0; i < 5; i++) due("edge(" + i + ", 1)", x.edge(i, 1), odd[i]);
      gone(x, 0, new int[] {1, 0, 1});
      x.side(0, 2, 0, 1, true);
      due("hole(0, 1, 1)", x.hole(0, 1, 1), 5);
      // 1: 100 and 101; 2: 101; 100: 1; 101: 1, 2, 201; 201: 101
      knotsOfHole(x, 1, 2, 100, 101, 201);
      int[] then = {0, 1, 1, 1, 1};
      for (int i = 0; i < 5; i++) due("edge(" + i + ", 1)", x.edge(i, 1), then[i]);
    });
    holds("TWINES: 1 if it has none", x -> {
      plain(x, 2, 3);
      gone(x, 0, new int[] {1, 0, 1}, new int[] {1, 1, 0}, new int[] {2, 0, 0}, new int[] {2, 0, 1});
      due("hole(0, 2, 0)", x.hole(0, 2, 0), 4);
      due("edge(0, 3)", x.edge(0, 3), 0);
      due("edge(0, 4)", x.edge(0, 4), 1);
      due("mend(0, 2, 0)", x.mend(0, 2, 0), 1);
    });
    holds("TWINES: half as many as it has ODD ones: 1 of 2", x -> {
      plain(x, 2, 2);
      gone(x, 0, new int[] {1, 0, 0});
      x.hole(0, 1, 0);
      due("edge(0, 3)", x.edge(0, 3), 2);
      due("edge(0, 4)", x.edge(0, 4), 1);
      due("mend(0, 1, 0)", x.mend(0, 1, 0), 1);
    });
    holds("TWINES: half as many as it has ODD ones: 2 of 4, 3 of 6", x -> {
      ofKinds(x, GAIN, GAIN);
      x.row(0);
      x.cut(0, 0, 1);
      due("hole(0, 0, 1)", x.hole(0, 0, 1), 4);
      due("edge(0, 3)", x.edge(0, 3), 4);
      due("edge(0, 4)", x.edge(0, 4), 2);
      due("mend(0, 0, 1)", x.mend(0, 0, 1), 2);
      x.panel(5, 1, 1);
      for (int k = 1; k < 5; k++) x.kind(1, k, TAKE);
      x.row(1);
      x.cut(1, 1, 0);
      due("mend(1, 1, 0)", x.mend(1, 1, 0), 3);
      due("panelOf(1, 8)", x.panelOf(1, 8), 5);
    });
  }

  private static void mendingAtBounds() {
    holds("without a NEEDLE on a KNOT of it: one on a KNOT beside it bars nothing", x -> {
      plain(x, 2, 2);
      gone(x, 0, new int[] {1, 0, 0});
      x.needle(0, 0, 1, true);
      x.needle(0, 1, 1, true);
      due("mend(0, 1, 0)", x.mend(0, 1, 0), 1);
    });
    holds("a NEEDLE on any KNOT of it bars: the first, the last", x -> {
      plain(x, 2, 2);
      gone(x, 0, new int[] {1, 0, 0}, new int[] {1, 0, 1});
      x.needle(0, 0, 0, true);
      due("mend(0, 0, 1)", x.mend(0, 0, 1), -2);
      x.needle(0, 0, 0, false);
      x.needle(0, 1, 0, true);
      due("mend(0, 0, 1)", x.mend(0, 0, 1), -2);
      x.needle(0, 1, 0, false);
      due("mend(0, 0, 1)", x.mend(0, 0, 1), 1);
    });
    holds("by which it goes along each GONE SIDE of the HOLE once: the shortest WAY", x -> {
      plain(x, 1, 2);
      gone(x, 0, new int[] {1, 0, 0});
      due("mend(0, 1, 0)", x.mend(0, 1, 0), 1);
      way(x, 0, 100);
    });
    holds("by which it goes along each GONE SIDE of the HOLE once: a WAY of 875 SIDES", TermsBoundaryTest::longWay);
    holds("All its SIDES are whole then, and no other's", x -> {
      plain(x, 3, 2);
      gone(x, 0, new int[] {1, 0, 0}, new int[] {1, 1, 0}, new int[] {1, 1, 1});
      due("mend(0, 1, 1)", x.mend(0, 1, 1), 1);
      row(x, 0, 1, 3, 1, 0, 0);
      due("hole(0, 1, 1)", x.hole(0, 1, 1), 0);
      due("hole(0, 1, 0)", x.hole(0, 1, 0), 2);
    });
  }

  /** All SIDES of 20 ROWS of 24 are GONE, but for those that leave just 1800 and 1923 ODD. */
  private static void longWay(NetLoft x) {
    plain(x, 24, 20);
    for (int r = 1; r < 20; r += 2) {
      for (int k = 0; k < 24; k++) x.cut(0, r, k);
    }
    for (int r = 1; r < 19; r++) due("side", x.side(0, r, r % 2 == 1 ? 0 : 23, 0, true), true);
    due("panelOf(0, 8)", x.panelOf(0, 8), 875);
    due("mend(0, 10, 10)", x.mend(0, 10, 10), 1);
    due("panelOf(0, 8)", x.panelOf(0, 8), 0);
    due("count(2)", x.count(2), 876);
    due("way(0)", x.way(0), 1800);
    due("way(1)", x.way(1), 1700);
    due("way(875)", x.way(875), 1923);
    due("way(876)", x.way(876), NONE);
    for (int i = 1; i < 101; i++) {
      due("rows between way(i) and the one ahead", Math.abs(x.way(i) / 100 - x.way(i - 1) / 100), 1);
    }
  }

  private static void wayThatComesFirst() {
    holds("it begins at the ODD one that comes first (by ROWS, then PLACES), not at the KNOT that comes first", x -> {
      plain(x, 2, 3);
      // 0 is not ODD: 100 and 101 hang in it by none; 1 has 100 and 101, both GONE, and 200, 201 end
      gone(x, 0, new int[] {1, 0, 1}, new int[] {1, 1, 0}, new int[] {2, 0, 0}, new int[] {2, 1, 0});
      due("mend(0, 0, 1)", x.mend(0, 0, 1), 1);
      way(x, 200, 100, 1, 101, 201);
    });
    holds("by ROWS, then PLACES: the lesser PLACE in one ROW", x -> {
      plain(x, 2, 2);
      gone(x, 0, new int[] {1, 0, 0}, new int[] {1, 0, 1});
      due("mend(0, 1, 0)", x.mend(0, 1, 0), 1);
      way(x, 0, 100, 1);
    });
    holds("without any, at the KNOT that comes first, and ends there", x -> {
      plain(x, 2, 3);
      gone(x, 0, new int[] {1, 0, 1}, new int[] {1, 1, 0}, new int[] {2, 0, 0}, new int[] {2, 0, 1});
      due("mend(0, 2, 0)", x.mend(0, 2, 0), 1);
      way(x, 1, 100, 200, 101, 1);
    });
    holds("without any, at the KNOT that comes first, though a greater HOLE with ODD ones was looked at ahead of it", x -> {
      plain(x, 3, 3);
      x.cut(0, 1, 1);
      due("mend(0, 1, 1)", x.mend(0, 1, 1), 2);
      plain(x, 2, 3);
      gone(x, 1, new int[] {1, 0, 1}, new int[] {1, 1, 0}, new int[] {2, 0, 0}, new int[] {2, 0, 1});
      due("mend(1, 2, 0)", x.mend(1, 2, 0), 1);
      way(x, 1, 100, 200, 101, 1);
    });
    holds("the one whose second KNOT comes first, of these whose third one does", x -> {
      plain(x, 3, 3);
      // ODD are 1 and 2; from 101 the WAY goes up to 2 last, so it begins at 1 by way of 100
      gone(x, 0, new int[] {1, 0, 1}, new int[] {1, 1, 0}, new int[] {1, 1, 1}, new int[] {2, 0, 0}, new int[] {2, 0, 1});
      gone(x, 0, new int[] {2, 1, 0}, new int[] {2, 1, 1}, new int[] {1, 2, 0});
      due("hole(0, 1, 1)", x.hole(0, 1, 1), 7);
      due("edge(0, 3)", x.edge(0, 3), 0);
      due("mend(0, 1, 1)", x.mend(0, 1, 1), 1);
      way(x, 1, 100, 200, 101, 2, 102, 201, 101, 1);
    });
    holds("a KNOT that comes first, but leads to the end alone, comes last", x -> {
      ofKinds(x, GAIN, PLAIN);
      x.row(0);
      gone(x, 0, new int[] {1, 0, 0}, new int[] {1, 1, 0}, new int[] {1, 1, 1});
      due("mend(0, 0, 0)", x.mend(0, 0, 0), 1);
      way(x, 1, 101, 0, 100);
    });
  }

  // ---- IV: hanging, fish, loads

  private static void opening() {
    holds("hundredths 0 .. 100 (all 0 at first)", x -> {
      plain(x, 1, 1);
      for (int a = 1; a <= 100; a++) {
        x.hang(0, a, 100);
        due("open(0) at " + a, x.open(0), 0);
      }
      x.hang(0, 1, 1000);
      due("open(0) at 0", x.open(0), 0);
    });
    holds("told for all PANELS", x -> {
      plain(x, 1, 1);
      x.part(100, 3);
      plain(x, 1, 1);
      due("open(0)", x.open(0), 3);
      due("open(1)", x.open(1), 3);
    });
    holds("that may be MISSING", x -> {
      plain(x, 1, 1);
      x.parts(NONE);
      due("open(0)", x.open(0), -2);
    });
    holds("or end earlier: just at the one asked for", x -> {
      plain(x, 1, 1);
      x.hang(0, 2, 3);
      x.parts(66);
      due("open(0) of 66", x.open(0), -2);
      x.parts(67);
      due("open(0) of 67", x.open(0), 0);
      x.part(66, 9);
      due("open(0)", x.open(0), 9);
    });
    holds("the whole part of 100 * a / b", x -> {
      plain(x, 1, 1);
      for (int i = 0; i < 101; i++) x.part(i, 100 - i);
      int[][] hangings = {{1, 1, 100}, {1000, 1000, 100}, {999, 1000, 99}, {1, 1000, 0}, {9, 1000, 0}, {10, 1000, 1},
        {1, 3, 33}, {2, 3, 66}, {1, 101, 0}, {2, 101, 1}};
      for (int[] h : hangings) {
        due("hang(0, " + h[0] + ", " + h[1] + ")", x.hang(0, h[0], h[1]), true);
        due("open(0) at " + h[0] + " / " + h[1], x.open(0), 100 - h[2]);
      }
    });
  }

  private static void slipping() {
    holds("SLIPS if 100 * g is below 4 * BAR * OPENING: alike stays", x -> {
      x.panel(1, 25, 1);
      x.part(100, 7);
      // 4 * 25 * 7 = 700
      due("slips(0, 6)", x.slips(0, 6), 1);
      due("slips(0, 7)", x.slips(0, 7), 0);
      due("slips(0, 8)", x.slips(0, 8), 0);
    });
    holds("of an OPENING of 0 none SLIPS", x -> {
      x.panel(1, 1000, 1);
      due("slips(0, 0)", x.slips(0, 0), 0);
    });
    holds("a fish of GIRTH 0 SLIPS through any other", x -> {
      x.panel(1, 1, 1);
      x.part(100, 1);
      due("slips(0, 0)", x.slips(0, 0), 1);
      due("slips(0, 1)", x.slips(0, 1), 0);
    });
    holds("the greatest BAR and OPENING, the greatest GIRTH", x -> {
      x.panel(1, 1000, 1);
      x.part(100, 100);
      due("slips(0, 3999)", x.slips(0, 3999), 1);
      due("slips(0, 4000)", x.slips(0, 4000), 0);
      due("slips(0, 1000000)", x.slips(0, 1000000), 0);
    });
  }

  private static void loads() {
    holds("at a KNOT of ROW 0 its PULL", x -> {
      plain(x, 2, 2);
      x.pull(0, 0, 100);
      load(x, 0, 0, 0, 100, 1);
      load(x, 0, 0, 1, 0, 1);
    });
    holds("parted evenly over the whole SIDES of those that hang in it: 3 at most", x -> {
      ofKinds(x, GAIN, GAIN);
      x.row(0);
      x.pull(0, 1, 100);
      load(x, 0, 1, 0, 0, 1);
      for (int k = 1; k < 4; k++) load(x, 0, 1, k, 100, 3);
    });
    holds("the whole SIDES alone: what hangs by a GONE one has none of it", x -> {
      plain(x, 2, 2);
      x.pull(0, 1, 7);
      load(x, 0, 1, 0, 7, 2);
      load(x, 0, 1, 1, 7, 2);
      gone(x, 0, new int[] {1, 0, 1});
      load(x, 0, 1, 0, 0, 1);
      load(x, 0, 1, 1, 7, 1);
    });
    holds("They are exact: parted by 3 and by 2 down all ROWS", x -> {
      x.panel(2, 1, 1);
      for (int r = 1; r < 20; r++) {
        boolean widened = r % 2 == 1;
        for (int k = 0; k < 2; k++) x.kind(0, widened ? k : k + 2, widened ? GAIN : TAKE);
        due("row(0)", x.row(0), widened ? 4 : 2);
      }
      x.pull(0, 1, 1);
      load(x, 0, 1, 1, 1, 3);
      // 201 has 101's half, all of 102 and of 103
      load(x, 0, 2, 0, 1, 6);
      load(x, 0, 2, 1, 5, 6);
      load(x, 0, 3, 0, 1, 12);
      load(x, 0, 3, 3, 5, 18);
      sum(x, 0, 1, 1, 1);
      sum(x, 0, 0, 0, 1);
    });
    holds("They are exact: the greatest PULLS of all 24, down all ROWS", x -> {
      plain(x, 24, 20);
      for (int k = 0; k < 24; k++) x.pull(0, k, 100);
      sum(x, 0, 1, 2400, 1);
      // the last one has half of the one at its left, and all of its own half
      load(x, 0, 1, 0, 150, 1);
      load(x, 0, 1, 23, 50, 1);
      load(x, 0, 19, 23, 25, 131072);
    });
  }

  private static void lostAndFoot() {
    holds("without such it is LOST", x -> {
      plain(x, 1, 2);
      x.pull(0, 0, 9);
      gone(x, 0, new int[] {1, 0, 0});
      sum(x, 0, 0, 9, 1);
      sum(x, 0, 1, 0, 1);
      load(x, 0, 0, 0, 9, 1);
      load(x, 0, 1, 0, 0, 1);
    });
    holds("of the last ROW: it comes to the FOOT, the only ROW's too", x -> {
      plain(x, 2, 1);
      x.pull(0, 0, 9);
      x.pull(0, 1, 8);
      sum(x, 0, 0, 0, 1);
      sum(x, 0, 1, 17, 1);
      x.row(0);
      sum(x, 0, 0, 0, 1);
      sum(x, 0, 1, 17, 1);
    });
    holds("LOST and FOOT together are all PULLS", x -> {
      plain(x, 3, 3);
      for (int k = 0; k < 3; k++) x.pull(0, k, 10);
      x.cut(0, 2, 0);
      // 100 has 10 + 5; KNOT 201 takes all of 101
      sum(x, 0, 0, 15, 1);
      sum(x, 0, 1, 15, 1);
    });
  }

  private static void weak() {
    holds("whose LOAD is above STRENGTH: alike is not", x -> {
      x.panel(1, 1, 100);
      x.pull(0, 0, 100);
      due("weak(0)", x.weak(0), NONE);
      x.panel(1, 1, 99);
      x.pull(1, 0, 100);
      due("weak(1)", x.weak(1), 0);
    });
    holds("above STRENGTH by a part of 1", x -> {
      x.panel(2, 1, 3);
      x.row(0);
      x.pull(0, 0, 0);
      x.pull(0, 1, 6);
      due("weak(0) in ROW 0", x.weak(0), 1);
      x.panel(2, 1, 4);
      x.row(1);
      x.pull(1, 0, 2);
      x.pull(1, 1, 4);
      due("weak(1) at 2 + 2 of 4", x.weak(1), NONE);
      x.pull(1, 0, 3);
      x.pull(1, 1, 3);
      due("weak(1) at 3 + 3 / 2 of 4", x.weak(1), 100);
    });
    holds("the first KNOT (by ROWS, then PLACES)", x -> {
      x.panel(3, 1, 5);
      x.row(0);
      x.pull(0, 2, 6);
      due("weak(0)", x.weak(0), 2);
      x.pull(0, 1, 6);
      due("weak(0)", x.weak(0), 1);
      x.pull(0, 0, 6);
      due("weak(0)", x.weak(0), 0);
    });
    holds("the last KNOT of all", x -> {
      due("panel(2, 1, 100)", x.panel(2, 1, 100), 0);
      for (int r = 1; r < 19; r++) x.row(0);
      for (int r = 1; r < 19; r++) due("side(0, r, 0, 1)", x.side(0, r, 0, 1, false), true);
      x.kind(0, 1, TAKE);
      due("row(0)", x.row(0), 1);
      x.pull(0, 0, 100);
      due("weak(0) at 100", x.weak(0), NONE);
      x.pull(0, 1, 1);
      due("weak(0) at 101", x.weak(0), 1900);
    });
    holds("the weakest STRENGTH, the strongest", x -> {
      x.panel(24, 1, 1);
      x.panel(24, 1, 1000000);
      for (int k = 0; k < 24; k++) x.pull(1, k, 100);
      due("weak(0) without PULLS", x.weak(0), NONE);
      x.pull(0, 23, 1);
      due("weak(0) at 1", x.weak(0), NONE);
      x.pull(0, 23, 2);
      due("weak(0) at 2", x.weak(0), 23);
      due("weak(1)", x.weak(1), NONE);
    });
  }
}
