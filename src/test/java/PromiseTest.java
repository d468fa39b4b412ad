/** Each promise of the document by itself: ordinary calls, the edges that it names, and wrong arguments. */
public final class PromiseTest {
  private static final int NONE = NetLoft.NONE;
  private static final int LOW = Integer.MIN_VALUE;
  private static final int HIGH = Integer.MAX_VALUE;
  private static int wrong = 0;
  private static int promise = 0;

  public static void main(String[] args) {
    newObject();
    panel();
    row();
    sidesOfKinds();
    kind();
    shape();
    ahead();
    meshes();
    of();
    side();
    cut();
    tear();
    needle();
    hole();
    edge();
    mend();
    wayOfMany();
    way();
    taper();
    cycle();
    sew();
    sewTurned();
    sewCopies();
    match();
    hang();
    parts();
    part();
    open();
    slips();
    pull();
    load();
    greatestLoads();
    sum();
    weak();
    count();
    panelOf();
    System.out.println(wrong == 0 ? "all promises stand" : wrong + " answers are not as due");
    if (wrong != 0) System.exit(1);
  }

  private static void due(String call, long got, long want) {
    if (got == want) return;
    wrong++;
    System.out.println("promise " + promise + ": " + call + " answered " + got + ", due is " + want);
  }

  private static void due(String call, boolean got, boolean want) {
    due(call, got ? 1 : 0, want ? 1 : 0);
  }

  /** A PANEL of so many ROWS of w PLAIN KNOTS on a new object. */
  private static NetLoft plain(int w, int rows) {
    NetLoft x = new NetLoft();
    x.panel(w, 10, 50);
    for (int r = 1; r < rows; r++) x.row(0);
    return x;
  }

  private static void kinds(NetLoft x, int p, int... kinds) {
    for (int k = 0; k < kinds.length; k++) due("kind(" + p + ", " + k + ", " + kinds[k] + ")", x.kind(p, k, kinds[k]), true);
  }

  private static void hangsIn(NetLoft x, int p, int r, int k, int... places) {
    String knot = p + ", " + r + ", " + k;
    due("of(" + knot + ", 2)", x.of(p, r, k, 2), places.length);
    due("of(" + knot + ", 4)", x.of(p, r, k, 4), places.length == 0 ? NONE : places[0]);
    for (int s = 0; s < places.length; s++) due("of(" + knot + ", 1" + s + ")", x.of(p, r, k, 10 + s), places[s]);
    due("of(" + knot + ", behind)", x.of(p, r, k, 10 + places.length), NONE);
  }

  private static void goes(NetLoft x, int... codes) {
    for (int i = 0; i < codes.length; i++) due("way(" + i + ")", x.way(i), codes[i]);
    due("way behind", x.way(codes.length), NONE);
    due("count(2)", x.count(2), codes.length);
  }

  private static void fraction(NetLoft x, int p, int r, int k, long upper, long lower) {
    due("load(" + p + ", " + r + ", " + k + ", 0)", x.load(p, r, k, 0), upper);
    due("load(" + p + ", " + r + ", " + k + ", 1)", x.load(p, r, k, 1), lower);
  }

  private static void newObject() {
    promise = 1;
    NetLoft x = new NetLoft();
    due("count(0)", x.count(0), 0);
    due("count(1)", x.count(1), 101);
    due("count(2)", x.count(2), 0);
    due("panelOf(0, 0)", x.panelOf(0, 0), NONE);
    x.panel(1, 1, 1);
    due("open(0)", x.open(0), 0);
  }

  private static void panel() {
    promise = 2;
    NetLoft x = new NetLoft();
    int[][] bad = {{0, 1, 1}, {25, 1, 1}, {-1, 1, 1}, {LOW, 1, 1}, {1, 0, 1}, {1, 1001, 1}, {1, 1, 0}, {1, 1, 1000001},
      {HIGH, 1, 1}, {1, HIGH, 1}, {1, 1, HIGH}, {1, LOW, LOW}};
    for (int[] b : bad) due("panel(" + b[0] + ", " + b[1] + ", " + b[2] + ")", x.panel(b[0], b[1], b[2]), NONE);
    due("count(0)", x.count(0), 0);
    due("panel(1, 1, 1)", x.panel(1, 1, 1), 0);
    due("panel(24, 1000, 1000000)", x.panel(24, 1000, 1000000), 1);
    due("meshes(1, 0)", x.meshes(1, 0), 24);
    due("of(1, 0, 23, 0)", x.of(1, 0, 23, 0), 0);
    for (int p = 2; p < 12; p++) due("panel " + p, x.panel(2, 2, 2), p);
    due("panel 12", x.panel(2, 2, 2), NONE);
    due("count(0)", x.count(0), 12);
  }

  private static void row() {
    promise = 3;
    NetLoft x = plain(3, 1);
    for (int r = 1; r < 20; r++) due("row " + r, x.row(0), 3);
    due("row 20", x.row(0), NONE);
    due("panelOf(0, 0)", x.panelOf(0, 0), 20);
    for (int p : new int[] {-1, 1, 12, LOW, HIGH}) due("row(" + p + ")", x.row(p), NONE);
    due("panel(13, 1, 1)", x.panel(13, 1, 1), 1);
    for (int k = 0; k < 12; k++) x.kind(1, k, 1);
    due("row(1) of 25", x.row(1), NONE);
    due("panelOf(1, 0)", x.panelOf(1, 0), 1);
    x.kind(1, 12, 2);
    due("row(1) of 24", x.row(1), 24);
    x.tear(1, 1);
    due("row(1) below a MISSING one", x.row(1), NONE);
  }

  private static void sidesOfKinds() {
    promise = 3;
    NetLoft x = plain(6, 1);
    kinds(x, 0, 1, 2, 2, 0, 2, 1);
    due("row(0)", x.row(0), 5);
    hangsIn(x, 0, 1, 0, 0, 1, 2);
    hangsIn(x, 0, 1, 1, 0, 1, 2, 3);
    hangsIn(x, 0, 1, 2, 3, 4, 5);
    hangsIn(x, 0, 1, 3, 5);
    hangsIn(x, 0, 1, 4, 5);
    x = plain(24, 1);
    for (int k = 1; k < 24; k++) x.kind(0, k, 2);
    due("row(0)", x.row(0), 1);
    due("of(0, 1, 0, 2)", x.of(0, 1, 0, 2), 24);
    due("of(0, 1, 0, 33)", x.of(0, 1, 0, 33), 23);
    due("of(0, 1, 0, 34)", x.of(0, 1, 0, 34), NONE);
    due("cut(0, 1, 0)", x.cut(0, 1, 0), 24);
    due("of(0, 1, 0, 3)", x.of(0, 1, 0, 3), 24);
  }

  private static void kind() {
    promise = 4;
    NetLoft x = plain(3, 2);
    due("kind(0, 0, 1)", x.kind(0, 0, 1), true);
    due("of(0, 1, 0, 1)", x.of(0, 1, 0, 1), 2);
    due("of(0, 0, 0, 0)", x.of(0, 0, 0, 0), 0);
    due("kind(0, 2, 2)", x.kind(0, 2, 2), true);
    due("of(0, 1, 2, 1)", x.of(0, 1, 2, 1), 0);
    due("kind(0, 2, 0)", x.kind(0, 2, 0), true);
    due("of(0, 1, 2, 1)", x.of(0, 1, 2, 1), 1);
    int[][] bad = {{1, 0, 0}, {-1, 0, 0}, {0, 3, 0}, {0, -1, 0}, {0, 0, 3}, {0, 0, -1}, {0, 0, 2}, {LOW, HIGH, LOW}};
    for (int[] b : bad) due("kind(" + b[0] + ", " + b[1] + ", " + b[2] + ")", x.kind(b[0], b[1], b[2]), false);
    due("of(0, 1, 0, 0)", x.of(0, 1, 0, 0), 1);
    x.tear(0, 1);
    due("kind(0, 0, 0) of a MISSING row", x.kind(0, 0, 0), false);
  }

  private static void shape() {
    promise = 5;
    NetLoft x = plain(5, 1);
    kinds(x, 0, 1, 1, 0, 0, 2);
    int[][] bad = {{1, 1, 1, 1}, {0, 0, 1, 1}, {0, 20, 5, 2}, {0, 1, 0, 1}, {0, 1, 25, 1}, {0, 1, 1, 0}, {0, 1, 1, 3},
      {0, 3, 1, 1}, {0, LOW, HIGH, 1}, {-1, 1, 1, 1}, {0, -1, 2, 2}};
    for (int[] b : bad) due("shape " + b[1] + " " + b[2] + " " + b[3], x.shape(b[0], b[1], b[2], b[3]), NONE);
    due("panelOf(0, 0)", x.panelOf(0, 0), 1);
    due("of(0, 0, 0, 0)", x.of(0, 0, 0, 0), 1);
    due("of(0, 0, 4, 0)", x.of(0, 0, 4, 0), 2);
    due("shape(0, 2, 2, 1)", x.shape(0, 2, 2, 1), 10);
    int[] kinds = {0, 1, 0, 1, 0};
    for (int k = 0; k < 5; k++) due("of(0, 0, k, 0)", x.of(0, 0, k, 0), kinds[k]);
    due("meshes(0, 1)", x.meshes(0, 1), 7);
    due("of(0, 2, 0, 0)", x.of(0, 2, 0, 0), 0);
    due("shape(0, 1, 1, 2)", x.shape(0, 1, 1, 2), 1);
    due("of(0, 2, 0, 0)", x.of(0, 2, 0, 0), 0);
    due("of(0, 2, 9, 0)", x.of(0, 2, 9, 0), 2);
    due("shape(0, 16, 24, 2)", x.shape(0, 16, 24, 2), 1);
    due("shape(0, 1, 24, 2)", x.shape(0, 1, 24, 2), NONE);
    x = plain(24, 1);
    due("shape(0, 19, 24, 2)", x.shape(0, 19, 24, 2), 23);
    due("panelOf(0, 0)", x.panelOf(0, 0), 20);
    x = plain(12, 1);
    due("shape(0, 1, 1, 1) to 24", x.shape(0, 1, 1, 1), 24);
    x = plain(3, 19);
    x.kind(0, 2, 2);
    due("shape(0, 2, 3, 1) to 21 ROWS", x.shape(0, 2, 3, 1), NONE);
    due("panelOf(0, 0)", x.panelOf(0, 0), 19);
    due("of(0, 18, 2, 0)", x.of(0, 18, 2, 0), 2);
    due("shape(0, 1, 3, 1) to 20 ROWS", x.shape(0, 1, 3, 1), 4);
    x = plain(4, 1);
    due("shape(0, 1, 2, 2)", x.shape(0, 1, 2, 2), 2);
    x.tear(0, 1);
    due("shape below a MISSING row", x.shape(0, 1, 2, 2), NONE);
  }

  private static void ahead() {
    promise = 6;
    NetLoft x = new NetLoft();
    due("ahead(5, 2, 2, 1)", x.ahead(5, 2, 2, 1), 10);
    due("ahead(1, 39, 1, 1)", x.ahead(1, 39, 1, 1), 549755813888L);
    due("ahead(1, 40, 1, 1)", x.ahead(1, 40, 1, 1), NONE);
    due("ahead(1000, 1000, 1, 1)", x.ahead(1000, 1000, 1, 1), NONE);
    due("ahead(1000, 1000, 1, 2)", x.ahead(1000, 1000, 1, 2), 1);
    due("ahead(1000, 1, 2, 2)", x.ahead(1000, 1, 2, 2), 500);
    due("ahead(1000, 1000, 2, 2)", x.ahead(1000, 1000, 2, 2), 1);
    due("ahead(23, 1000, 24, 1)", x.ahead(23, 1000, 24, 1), 23);
    due("ahead(7, 1, 3, 1)", x.ahead(7, 1, 3, 1), 9);
    int[][] bad = {{0, 1, 1, 1}, {1001, 1, 1, 1}, {1, 0, 1, 1}, {1, 1001, 1, 2}, {1, 1, 0, 1}, {1, 1, 25, 1}, {1, 1, 1, 0},
      {1, 1, 1, 3}, {LOW, HIGH, LOW, HIGH}};
    for (int[] b : bad) due("ahead " + b[0] + " " + b[1] + " " + b[2] + " " + b[3], x.ahead(b[0], b[1], b[2], b[3]), NONE);
  }

  private static void meshes() {
    promise = 7;
    NetLoft x = plain(4, 3);
    due("meshes(0, 2)", x.meshes(0, 2), 4);
    due("meshes(0, 3)", x.meshes(0, 3), NONE);
    due("meshes(0, -1)", x.meshes(0, -1), NONE);
    due("meshes(1, 0)", x.meshes(1, 0), NONE);
    x.tear(0, 1);
    due("meshes(0, 1)", x.meshes(0, 1), 0);
    due("meshes(0, 2)", x.meshes(0, 2), 4);
  }

  private static void of() {
    promise = 8;
    NetLoft x = plain(2, 3);
    hangsIn(x, 0, 0, 0);
    hangsIn(x, 0, 1, 0, 0, 1);
    hangsIn(x, 0, 1, 1, 1);
    due("of(0, 0, 0, 3)", x.of(0, 0, 0, 3), 0);
    due("of(0, 0, 0, 10)", x.of(0, 0, 0, 10), NONE);
    for (int what : new int[] {-1, 7, 8, 9, 12, HIGH, LOW}) due("of(0, 1, 0, " + what + ")", x.of(0, 1, 0, what), NONE);
    int[][] bad = {{1, 0, 0}, {-1, 0, 0}, {0, 3, 0}, {0, -1, 0}, {0, 0, 2}, {0, 0, -1}, {HIGH, LOW, HIGH}};
    for (int[] b : bad) due("of " + b[0] + " " + b[1] + " " + b[2], x.of(b[0], b[1], b[2], 0), NONE);
    x.side(0, 1, 0, 1, false);
    due("of(0, 1, 0, 3)", x.of(0, 1, 0, 3), 1);
    due("of(0, 1, 0, 2)", x.of(0, 1, 0, 2), 2);
    due("of(0, 1, 0, 11)", x.of(0, 1, 0, 11), 1);
    due("of(0, 0, 1, 6)", x.of(0, 0, 1, 6), 1);
    due("of(0, 0, 0, 6)", x.of(0, 0, 0, 6), 0);
    x.side(0, 2, 0, 0, false);
    due("of(0, 1, 0, 6)", x.of(0, 1, 0, 6), 2);
    x.tear(0, 1);
    hangsIn(x, 0, 2, 0);
    due("of(0, 2, 0, 3)", x.of(0, 2, 0, 3), 0);
    due("of(0, 2, 0, 6)", x.of(0, 2, 0, 6), 0);
    due("of(0, 2, 0, 0)", x.of(0, 2, 0, 0), 0);
    due("of(0, 0, 1, 6)", x.of(0, 0, 1, 6), 0);
    due("of(0, 1, 0, 0)", x.of(0, 1, 0, 0), NONE);
  }

  private static void side() {
    promise = 9;
    NetLoft x = plain(2, 2);
    due("side(0, 1, 0, 1, false)", x.side(0, 1, 0, 1, false), true);
    due("again", x.side(0, 1, 0, 1, false), true);
    due("panelOf(0, 8)", x.panelOf(0, 8), 1);
    due("side(0, 1, 0, 1, true)", x.side(0, 1, 0, 1, true), true);
    due("panelOf(0, 8)", x.panelOf(0, 8), 0);
    int[][] bad = {{0, 1, 0, 2}, {0, 1, 0, -1}, {0, 1, 1, 1}, {0, 0, 0, 0}, {0, 1, 2, 0}, {0, 2, 0, 0}, {1, 0, 0, 0},
      {0, 1, 0, HIGH}, {0, 1, 0, LOW}, {-1, 1, 0, 0}, {0, 1, 0, 32}};
    for (int[] b : bad) due("side of none", x.side(b[0], b[1], b[2], b[3], false), false);
    due("panelOf(0, 8)", x.panelOf(0, 8), 0);
  }

  private static void cut() {
    promise = 10;
    NetLoft x = plain(3, 3);
    x.side(0, 1, 1, 0, false);
    due("cut(0, 1, 1)", x.cut(0, 1, 1), 3);
    due("of(0, 1, 1, 6)", x.of(0, 1, 1, 6), 4);
    due("panelOf(0, 8)", x.panelOf(0, 8), 4);
    due("cut(0, 1, 1)", x.cut(0, 1, 1), 0);
    due("cut(0, 0, 0)", x.cut(0, 0, 0), 1);
    due("cut(0, 2, 2)", x.cut(0, 2, 2), 1);
    int[][] bad = {{0, 3, 0}, {0, 0, 3}, {1, 0, 0}, {-1, -1, -1}, {HIGH, LOW, LOW}};
    for (int[] b : bad) due("cut of none", x.cut(b[0], b[1], b[2]), NONE);
  }

  private static void tear() {
    promise = 11;
    NetLoft x = plain(2, 4);
    x.needle(0, 1, 0, true);
    x.cut(0, 1, 0);
    due("tear(0, 1)", x.tear(0, 1), true);
    due("tear(0, 1)", x.tear(0, 1), false);
    due("panelOf(0, 5)", x.panelOf(0, 5), 6);
    due("panelOf(0, 6)", x.panelOf(0, 6), 0);
    due("panelOf(0, 7)", x.panelOf(0, 7), 3);
    due("panelOf(0, 8)", x.panelOf(0, 8), 0);
    due("panelOf(0, 0)", x.panelOf(0, 0), 4);
    due("side(0, 2, 0, 0, false)", x.side(0, 2, 0, 0, false), false);
    due("cut(0, 2, 0)", x.cut(0, 2, 0), 1);
    int[][] bad = {{0, 4}, {0, -1}, {1, 0}, {-1, 0}, {LOW, HIGH}, {0, HIGH}};
    for (int[] b : bad) due("tear of none", x.tear(b[0], b[1]), false);
    due("tear(0, 3)", x.tear(0, 3), true);
    due("row(0)", x.row(0), NONE);
  }

  private static void needle() {
    promise = 12;
    NetLoft x = plain(2, 2);
    due("needle on", x.needle(0, 1, 1, true), true);
    due("of(0, 1, 1, 5)", x.of(0, 1, 1, 5), 1);
    due("of(0, 1, 0, 5)", x.of(0, 1, 0, 5), 0);
    due("needle on", x.needle(0, 1, 1, true), true);
    due("panelOf(0, 6)", x.panelOf(0, 6), 1);
    due("needle off", x.needle(0, 1, 1, false), true);
    due("of(0, 1, 1, 5)", x.of(0, 1, 1, 5), 0);
    int[][] bad = {{0, 2, 0}, {0, 0, 2}, {1, 0, 0}, {-1, -1, -1}, {LOW, LOW, HIGH}};
    for (int[] b : bad) due("needle on none", x.needle(b[0], b[1], b[2], true), false);
    due("panelOf(0, 6)", x.panelOf(0, 6), 0);
  }

  private static void hole() {
    promise = 13;
    NetLoft x = plain(4, 3);
    due("hole(0, 1, 1)", x.hole(0, 1, 1), 0);
    x.side(0, 1, 0, 0, false);
    x.side(0, 2, 0, 0, false);
    x.side(0, 2, 3, 0, false);
    due("hole(0, 2, 0)", x.hole(0, 2, 0), 3);
    due("hole(0, 0, 0)", x.hole(0, 0, 0), 3);
    due("hole(0, 4, 0)", x.hole(0, 4, 0), NONE);
    due("edge(0, 2)", x.edge(0, 2), 2);
    due("hole(0, 1, 3)", x.hole(0, 1, 3), 2);
    due("edge(0, 0)", x.edge(0, 0), 103);
    due("hole(0, 0, 3)", x.hole(0, 0, 3), 0);
    due("edge(0, 4)", x.edge(0, 4), 0);
    due("hole(1, 0, 0)", x.hole(1, 0, 0), NONE);
    due("hole(0, 0, -1)", x.hole(0, 0, -1), NONE);
    x.tear(0, 1);
    due("hole(0, 1, 0)", x.hole(0, 1, 0), NONE);
    due("hole(0, 2, 0)", x.hole(0, 2, 0), 0);
    x = plain(2, 20);
    x.cut(0, 19, 1);
    x.cut(0, 19, 0);
    due("hole in the last ROW of 20", x.hole(0, 18, 1), 4);
    due("edge(3, 0)", x.edge(3, 0), 1901);
  }

  private static void edge() {
    promise = 14;
    NetLoft x = plain(3, 3);
    for (int what = -1; what < 6; what++) due("edge ahead of any", x.edge(0, what), NONE);
    x.cut(0, 1, 1);
    due("hole(0, 1, 1)", x.hole(0, 1, 1), 5);
    int[] codes = {1, 2, 101, 200, 201};
    int[] odd = {1, 1, 0, 1, 1};
    for (int i = 0; i < 5; i++) {
      due("edge(" + i + ", 0)", x.edge(i, 0), codes[i]);
      due("edge(" + i + ", 1)", x.edge(i, 1), odd[i]);
    }
    for (int i : new int[] {-1, 5, HIGH, LOW}) {
      due("edge of none", x.edge(i, 0), NONE);
      due("edge of none", x.edge(i, 1), NONE);
      due("edge(i, 2)", x.edge(i, 2), 4);
      due("edge(i, 3)", x.edge(i, 3), 4);
      due("edge(i, 4)", x.edge(i, 4), 2);
    }
    for (int what : new int[] {-1, 5, HIGH, LOW}) due("edge(0, " + what + ")", x.edge(0, what), NONE);
    x.side(0, 1, 1, 0, true);
    x.tear(0, 2);
    due("edge(4, 0) as it was", x.edge(4, 0), 201);
    due("edge(0, 2) as it was", x.edge(0, 2), 4);
    x.hole(0, 0, 0);
    due("edge(0, 0) of an empty one", x.edge(0, 0), NONE);
    due("edge(9, 2) of an empty one", x.edge(9, 2), 0);
    due("edge(9, 3) of an empty one", x.edge(9, 3), 0);
    due("edge(9, 4) of an empty one", x.edge(9, 4), 0);
  }

  private static void mend() {
    promise = 15;
    NetLoft x = plain(3, 3);
    due("mend(0, 0, 0)", x.mend(0, 0, 0), 0);
    int[][] bad = {{0, 3, 0}, {0, 0, 3}, {1, 0, 0}, {-1, -1, -1}, {LOW, HIGH, HIGH}};
    for (int[] b : bad) due("mend of none", x.mend(b[0], b[1], b[2]), NONE);
    x.cut(0, 1, 1);
    x.needle(0, 1, 1, true);
    due("mend of 2 TWINES under a NEEDLE", x.mend(0, 2, 0), 2);
    due("panelOf(0, 8)", x.panelOf(0, 8), 4);
    x.side(0, 2, 0, 1, true);
    x.side(0, 2, 1, 0, true);
    due("mend under a NEEDLE", x.mend(0, 0, 1), -2);
    due("panelOf(0, 8)", x.panelOf(0, 8), 2);
    due("count(2)", x.count(2), 0);
    x.side(0, 2, 2, 0, false);
    x.needle(0, 1, 1, false);
    x.needle(0, 1, 2, true);
    due("mend beside a NEEDLE", x.mend(0, 1, 1), 1);
    goes(x, 1, 101, 2);
    due("the other hole stays", x.panelOf(0, 8), 1);
    due("mend again", x.mend(0, 1, 1), 0);
    due("mend under a NEEDLE", x.mend(0, 2, 2), -2);
    goes(x, 1, 101, 2);
  }

  /** KNOT 100 comes first behind 0, but leads to the end alone: the round by 0, 101, 1, .. comes ahead of it. */
  private static void wayOfMany() {
    promise = 15;
    NetLoft x = plain(2, 1);
    kinds(x, 0, 1, 0);
    due("row(0)", x.row(0), 3);
    hangsIn(x, 0, 1, 1, 0, 1);
    hangsIn(x, 0, 1, 2, 1);
    x.row(0);
    x.side(0, 1, 0, 0, false);
    x.side(0, 1, 1, 0, false);
    x.side(0, 1, 1, 1, false);
    due("mend of a way of 4", x.mend(0, 1, 0), 1);
    goes(x, 1, 101, 0, 100);
    x = plain(3, 3);
    // a round over 1, 100, 200, 101 and from 101 on to 2
    x.side(0, 1, 0, 1, false);
    x.side(0, 2, 0, 0, false);
    x.side(0, 2, 0, 1, false);
    x.side(0, 1, 1, 0, false);
    x.side(0, 1, 1, 1, false);
    due("mend of a round with an end", x.mend(0, 2, 0), 1);
    goes(x, 2, 101, 1, 100, 200, 101);
    // from 101 the end at 2 would be the first, but the round must go ahead of it
    x.row(0);
    x.side(0, 1, 1, 1, false);
    x.side(0, 2, 0, 1, false);
    x.side(0, 2, 1, 0, false);
    x.side(0, 3, 0, 0, false);
    x.side(0, 3, 0, 1, false);
    x.side(0, 1, 1, 0, false);
    x.side(0, 1, 0, 1, false);
    due("mend of a round on the way", x.mend(0, 1, 1), 1);
    goes(x, 2, 101, 200, 300, 201, 101, 1, 100);
  }

  private static void way() {
    promise = 16;
    NetLoft x = plain(2, 2);
    due("way(0) ahead of any", x.way(0), NONE);
    x.side(0, 1, 1, 0, false);
    x.mend(0, 1, 1);
    goes(x, 1, 101);
    due("way(-1)", x.way(-1), NONE);
    due("way(HIGH)", x.way(HIGH), NONE);
    due("way(LOW)", x.way(LOW), NONE);
    x.tear(0, 0);
    goes(x, 1, 101);
  }

  private static void taper() {
    promise = 17;
    NetLoft x = new NetLoft();
    due("taper(20, 10, 20)", x.taper(20, 10, 20), 2);
    due("taper(20, 13, 20)", x.taper(20, 13, 20), leastCycle(7, 20));
    due("taper(5, 5, 400)", x.taper(5, 5, 400), 1);
    due("cycle(1)", x.cycle(1), 0);
    due("taper(1000, 1, 1)", x.taper(1000, 1, 1), 1);
    due("cycle(1)", x.cycle(1), 999);
    due("taper(1000, 1, 400)", x.taper(1000, 1, 400), leastCycle(999, 400));
    due("taper(10, 9, 3)", x.taper(10, 9, 3), 2);
    int[][] bad = {{0, 1, 1}, {1, 0, 1}, {1001, 1, 1}, {5, 6, 1}, {5, 5, 0}, {5, 5, 401}, {LOW, LOW, LOW}, {HIGH, 1, HIGH}};
    for (int[] b : bad) due("taper " + b[0] + " " + b[1] + " " + b[2], x.taper(b[0], b[1], b[2]), NONE);
    for (int d = 1; d <= 40; d++) {
      for (int taken = 0; taken <= 40; taken++) due("taper", x.taper(taken + 1, 1, d), leastCycle(taken, d));
    }
  }

  /** Row by row, as the document tells it. */
  private static int leastCycle(int taken, int d) {
    for (int l = 1; l <= d; l++) {
      for (int t = 0; t <= taken; t++) {
        int all = 0;
        for (int row = 0; row < d; row++) all += (row % l + 1) * t / l - row % l * t / l;
        if (all == taken) return l;
      }
    }
    return NONE;
  }

  private static void cycle() {
    promise = 18;
    NetLoft x = new NetLoft();
    for (int what = -1; what < 5; what++) due("cycle ahead of any", x.cycle(what), NONE);
    x.taper(0, 0, 0);
    due("cycle(0) behind a refused one", x.cycle(0), NONE);
    due("taper(12, 8, 11)", x.taper(12, 8, 11), 5);
    // with l = 5, t = 2: two whole CYCLES take 4, the row behind them none
    int[] told = {5, 2, 2, 1};
    for (int what = 0; what < 4; what++) due("cycle(" + what + ")", x.cycle(what), told[what]);
    x.taper(1, 2, 3);
    for (int what = 0; what < 4; what++) due("cycle(" + what + ")", x.cycle(what), told[what]);
    for (int what : new int[] {-1, 4, HIGH, LOW}) due("cycle(" + what + ")", x.cycle(what), NONE);
  }

  private static void sew() {
    promise = 19;
    NetLoft x = new NetLoft();
    x.panel(3, 7, 8);
    x.panel(5, 9, 10);
    x.hang(0, 2, 6);
    x.pull(0, 0, 5);
    x.row(1);
    due("sew(0, 1)", x.sew(0, 1), 2);
    // 5 over 3: 1, 2, 2
    int[] gives = {1, 2, 2};
    for (int k = 0; k < 3; k++) {
      due("of(2, 0, k, 0)", x.of(2, 0, k, 0), 3);
      due("of(2, 0, k, 1)", x.of(2, 0, k, 1), gives[k]);
      due("of(0, 0, k, 0)", x.of(0, 0, k, 0), 0);
    }
    hangsIn(x, 2, 1, 0, 0, 1);
    hangsIn(x, 2, 1, 1, 1);
    hangsIn(x, 2, 1, 2, 1, 2);
    hangsIn(x, 2, 1, 3, 2);
    hangsIn(x, 2, 1, 4, 2);
    hangsIn(x, 2, 2, 4, 4);
    hangsIn(x, 1, 0, 0);
    int[] told = {3, 7, 8, 2, 6, 13, 0, 16, 0};
    for (int what = 0; what < 9; what++) due("panelOf(2, " + what + ")", x.panelOf(2, what), told[what]);
    due("load(2, 0, 0, 0)", x.load(2, 0, 0, 0), 0);
    due("load(0, 0, 0, 0)", x.load(0, 0, 0, 0), 5);
    int[][] bad = {{0, 0}, {0, 3}, {3, 0}, {-1, 0}, {0, -1}, {LOW, HIGH}};
    for (int[] b : bad) due("sew " + b[0] + " " + b[1], x.sew(b[0], b[1]), NONE);
  }

  private static void sewTurned() {
    promise = 19;
    NetLoft x = new NetLoft();
    x.panel(5, 1, 1);
    x.panel(3, 1, 1);
    due("sew(0, 1)", x.sew(0, 1), 2);
    // each one below takes 1, 2, 2 of those above: 0; 1, 2; 3, 4
    int[] gives = {1, 1, 0, 1, 0};
    for (int k = 0; k < 5; k++) due("of(2, 0, " + k + ", 1)", x.of(2, 0, k, 1), gives[k]);
    hangsIn(x, 2, 1, 0, 0, 1);
    hangsIn(x, 2, 1, 1, 1, 2, 3);
    hangsIn(x, 2, 1, 2, 3, 4);
    x.panel(6, 1, 1);
    due("sew(3, 1): just twice", x.sew(3, 1), 4);
    due("sew(1, 3): just twice", x.sew(1, 3), 5);
    x.panel(7, 1, 1);
    due("sew(6, 1): above twice", x.sew(6, 1), NONE);
    due("sew(1, 6): above twice", x.sew(1, 6), NONE);
    due("count(0)", x.count(0), 7);
  }

  private static void sewCopies() {
    promise = 19;
    NetLoft x = new NetLoft();
    x.panel(3, 1, 1);
    x.shape(0, 9, 24, 1);
    x.kind(0, 1, 1);
    x.panel(3, 1, 1);
    x.kind(1, 2, 1);
    x.row(1);
    x.needle(0, 0, 1, true);
    x.side(0, 3, 0, 0, false);
    x.tear(0, 5);
    x.needle(1, 1, 3, true);
    x.side(1, 1, 1, 1, false);
    due("sew(0, 1)", x.sew(0, 1), 2);
    due("meshes(2, 5)", x.meshes(2, 5), 0);
    due("of(2, 6, 0, 2)", x.of(2, 6, 0, 2), 0);
    due("of(2, 0, 1, 5)", x.of(2, 0, 1, 5), 1);
    due("of(2, 3, 0, 3)", x.of(2, 3, 0, 3), 1);
    due("of(2, 9, 1, 0)", x.of(2, 9, 1, 0), 3);
    due("of(2, 10, 2, 0)", x.of(2, 10, 2, 0), 1);
    due("of(2, 11, 3, 5)", x.of(2, 11, 3, 5), 1);
    due("of(2, 11, 1, 3)", x.of(2, 11, 1, 3), 1);
    x.side(2, 3, 0, 0, true);
    x.needle(2, 0, 1, false);
    due("of(0, 3, 0, 3)", x.of(0, 3, 0, 3), 1);
    due("of(0, 0, 1, 5)", x.of(0, 0, 1, 5), 1);
    x.panel(4, 1, 1);
    x.kind(3, 1, 1);
    due("sew(2, 3)", x.sew(2, 3), 4);
    due("row(4) below a copied GAIN", x.row(4), 5);
    due("sew(4, 0): 23 ROWS", x.sew(4, 0), NONE);
    x.panel(3, 1, 1);
    x.shape(5, 9, 24, 1);
    x.panel(3, 1, 1);
    x.shape(6, 9, 24, 1);
    due("sew(5, 6): 20 ROWS", x.sew(5, 6), 7);
    x.row(6);
    due("sew(5, 6): 21 ROWS", x.sew(5, 6), NONE);
    x.tear(3, 0);
    due("sew(3, 1): MISSING", x.sew(3, 1), NONE);
    due("sew(1, 3): MISSING", x.sew(1, 3), NONE);
    for (int p = 8; p < 12; p++) x.panel(1, 1, 1);
    due("sew(8, 9): 12 are there", x.sew(8, 9), NONE);
  }

  private static void match() {
    promise = 20;
    NetLoft x = new NetLoft();
    due("match(0) ahead of any", x.match(0), NONE);
    x.panel(5, 1, 1);
    x.panel(3, 1, 1);
    x.sew(0, 1);
    int[] took = {1, 2, 2};
    for (int i = 0; i < 3; i++) due("match(" + i + ")", x.match(i), took[i]);
    for (int i : new int[] {-1, 3, HIGH, LOW}) due("match(" + i + ")", x.match(i), NONE);
    x.sew(1, 1);
    due("match(2) behind a refused one", x.match(2), 2);
    x.panel(5, 1, 1);
    x.sew(0, 3);
    for (int i = 0; i < 5; i++) due("match(" + i + ")", x.match(i), 1);
    x.panel(2, 1, 1);
    x.sew(5, 1);
    due("match(0)", x.match(0), 1);
    due("match(1)", x.match(1), 2);
    due("match(2)", x.match(2), NONE);
  }

  private static void hang() {
    promise = 21;
    NetLoft x = plain(1, 1);
    due("hang(0, 50, 100)", x.hang(0, 50, 100), true);
    due("panelOf(0, 3)", x.panelOf(0, 3), 50);
    due("panelOf(0, 4)", x.panelOf(0, 4), 100);
    due("hang(0, 1000, 1000)", x.hang(0, 1000, 1000), true);
    due("hang(0, 1, 1)", x.hang(0, 1, 1), true);
    int[][] bad = {{1, 1, 1}, {-1, 1, 1}, {0, 0, 1}, {0, 2, 1}, {0, 1, 1001}, {0, 1, 0}, {0, LOW, HIGH}, {0, -2, -1}};
    for (int[] b : bad) due("hang " + b[0] + " " + b[1] + " " + b[2], x.hang(b[0], b[1], b[2]), false);
    due("panelOf(0, 4)", x.panelOf(0, 4), 1);
  }

  private static void parts() {
    promise = 22;
    NetLoft x = plain(1, 1);
    x.part(100, 7);
    due("open(0)", x.open(0), 7);
    for (int n : new int[] {-2, 102, HIGH, LOW}) due("parts(" + n + ")", x.parts(n), false);
    due("open(0)", x.open(0), 7);
    due("parts(101)", x.parts(101), true);
    due("open(0)", x.open(0), 0);
    x.part(100, 7);
    due("parts(-1)", x.parts(-1), true);
    due("count(1)", x.count(1), NONE);
    due("open(0)", x.open(0), -2);
    due("parts(0)", x.parts(0), true);
    due("count(1)", x.count(1), 0);
    due("open(0)", x.open(0), -2);
    due("parts(100)", x.parts(100), true);
    due("open(0)", x.open(0), -2);
    x.parts(101);
    due("open(0)", x.open(0), 0);
    x.part(0, 9);
    x.hang(0, 1, 101);
    due("open(0) at 0", x.open(0), 9);
    x.parts(101);
    due("open(0) at 0", x.open(0), 0);
  }

  private static void part() {
    promise = 23;
    NetLoft x = plain(1, 1);
    due("part(100, 100)", x.part(100, 100), true);
    due("part(0, 0)", x.part(0, 0), true);
    int[][] bad = {{-1, 0}, {101, 0}, {100, 101}, {100, -1}, {LOW, HIGH}, {HIGH, 1}};
    for (int[] b : bad) due("part " + b[0] + " " + b[1], x.part(b[0], b[1]), false);
    due("open(0)", x.open(0), 100);
    x.parts(5);
    due("part(4, 1)", x.part(4, 1), true);
    due("part(5, 1)", x.part(5, 1), false);
    x.parts(NONE);
    due("part(0, 1)", x.part(0, 1), false);
  }

  private static void open() {
    promise = 24;
    NetLoft x = plain(1, 1);
    for (int i = 0; i < 101; i++) x.part(i, 100 - i);
    due("open(0)", x.open(0), 0);
    x.hang(0, 2, 3);
    due("open(0) at 66", x.open(0), 34);
    x.hang(0, 1, 1000);
    due("open(0) at 0", x.open(0), 100);
    x.hang(0, 999, 1000);
    due("open(0) at 99", x.open(0), 1);
    due("open(1)", x.open(1), NONE);
    due("open(-1)", x.open(-1), NONE);
    x.parts(99);
    due("open(0) of a short row", x.open(0), -2);
    x.parts(100);
    due("open(0)", x.open(0), 0);
    x.parts(NONE);
    due("open(0)", x.open(0), -2);
    due("open(1)", x.open(1), NONE);
  }

  private static void slips() {
    promise = 25;
    NetLoft x = plain(1, 1);
    due("slips(0, 0) through 0", x.slips(0, 0), 0);
    x.part(100, 50);
    // 4 * 10 * 50 = 2000
    due("slips(0, 19)", x.slips(0, 19), 1);
    due("slips(0, 20)", x.slips(0, 20), 0);
    due("slips(0, 0)", x.slips(0, 0), 1);
    due("slips(0, 1000000)", x.slips(0, 1000000), 0);
    for (int g : new int[] {-1, 1000001, HIGH, LOW}) due("slips(0, " + g + ")", x.slips(0, g), NONE);
    due("slips(1, 1)", x.slips(1, 1), NONE);
    x.parts(3);
    due("slips(0, 1)", x.slips(0, 1), -2);
    x.parts(NONE);
    due("slips(0, 1)", x.slips(0, 1), -2);
    due("slips(1, 1)", x.slips(1, 1), NONE);
    due("slips(0, -1)", x.slips(0, -1), NONE);
  }

  private static void pull() {
    promise = 26;
    NetLoft x = plain(2, 2);
    due("pull(0, 1, 100)", x.pull(0, 1, 100), true);
    fraction(x, 0, 0, 1, 100, 1);
    int[][] bad = {{0, 2, 1}, {0, -1, 1}, {0, 1, 101}, {0, 1, -1}, {1, 0, 1}, {-1, 0, 1}, {LOW, LOW, LOW}};
    for (int[] b : bad) due("pull " + b[0] + " " + b[1] + " " + b[2], x.pull(b[0], b[1], b[2]), false);
    fraction(x, 0, 0, 1, 100, 1);
    due("pull(0, 1, 0)", x.pull(0, 1, 0), true);
    fraction(x, 0, 0, 1, 0, 1);
    x.tear(0, 0);
    due("pull(0, 0, 1)", x.pull(0, 0, 1), false);
  }

  private static void load() {
    promise = 27;
    NetLoft x = plain(2, 1);
    kinds(x, 0, 1, 1);
    x.row(0);
    x.row(0);
    x.pull(0, 0, 3);
    x.pull(0, 1, 4);
    // KNOT 0 holds 2, KNOT 1 holds 3
    fraction(x, 0, 1, 0, 3, 2);
    fraction(x, 0, 1, 1, 17, 6);
    fraction(x, 0, 1, 2, 4, 3);
    fraction(x, 0, 2, 0, 35, 12);
    due("load(0, 1, 1, 2)", x.load(0, 1, 1, 2), NONE);
    due("load(0, 1, 1, -1)", x.load(0, 1, 1, -1), NONE);
    int[][] bad = {{1, 0, 0}, {-1, 0, 0}, {0, 3, 0}, {0, 0, 2}, {0, -1, 0}, {0, 0, -1}, {LOW, HIGH, LOW}};
    for (int[] b : bad) due("load of none", x.load(b[0], b[1], b[2], 0), NONE);
    x.side(0, 1, 1, 1, false);
    fraction(x, 0, 1, 1, 3, 2);
    fraction(x, 0, 1, 2, 2, 1);
    x.tear(0, 0);
    fraction(x, 0, 1, 1, 0, 1);
    due("load(0, 0, 0, 0)", x.load(0, 0, 0, 0), NONE);
  }

  /** The most that can be pulled, and lower parts of 2 and 3 down all ROWS. */
  private static void greatestLoads() {
    promise = 27;
    NetLoft x = new NetLoft();
    x.panel(24, 1, 2399);
    for (int r = 1; r < 20; r++) {
      for (int k = 0; k < 24; k++) x.kind(0, k, k % 2 == 0 ? 1 : 2);
      due("row(0)", x.row(0), 24);
    }
    for (int k = 0; k < 24; k++) x.pull(0, k, 100);
    due("sum(0, 1, 0)", x.sum(0, 1, 0), 2400);
    due("sum(0, 1, 1)", x.sum(0, 1, 1), 1);
    due("sum(0, 0, 0)", x.sum(0, 0, 0), 0);
    due("weak(0)", x.weak(0), NONE);
    x = new NetLoft();
    x.panel(3, 1, 1);
    for (int r = 1; r < 20; r++) {
      kinds(x, 0, 0, 1, 2);
      due("row(0)", x.row(0), 3);
    }
    x.pull(0, 1, 1);
    // at PLACE 1 and 2 a third, and from then on a third and a half, 5 / 6, of the one above
    fraction(x, 0, 1, 1, 1, 3);
    fraction(x, 0, 2, 2, 5, 18);
    fraction(x, 0, 19, 1, 3814697265625L, 304679870005248L);
    due("sum(0, 1, 0)", x.sum(0, 1, 0), 1);
  }

  private static void sum() {
    promise = 28;
    NetLoft x = plain(2, 3);
    x.pull(0, 0, 5);
    x.pull(0, 1, 7);
    due("sum(0, 1, 0)", x.sum(0, 1, 0), 12);
    due("sum(0, 1, 1)", x.sum(0, 1, 1), 1);
    due("sum(0, 0, 0)", x.sum(0, 0, 0), 0);
    due("sum(0, 0, 1)", x.sum(0, 0, 1), 1);
    int[][] bad = {{1, 0, 0}, {-1, 0, 0}, {0, 2, 0}, {0, -1, 0}, {0, 0, 2}, {0, 0, -1}, {LOW, LOW, LOW}};
    for (int[] b : bad) due("sum of none", x.sum(b[0], b[1], b[2]), NONE);
    x.cut(0, 2, 0);
    // KNOT 100 has 5 + 7 / 2 and nothing hangs in it any more; 101 has the other 7 / 2
    due("sum(0, 0, 0)", x.sum(0, 0, 0), 17);
    due("sum(0, 0, 1)", x.sum(0, 0, 1), 2);
    due("sum(0, 1, 0)", x.sum(0, 1, 0), 7);
    due("sum(0, 1, 1)", x.sum(0, 1, 1), 2);
    x.tear(0, 1);
    due("sum(0, 0, 0) over a MISSING row", x.sum(0, 0, 0), 12);
    due("sum(0, 1, 0) below a MISSING row", x.sum(0, 1, 0), 0);
    x = plain(2, 1);
    x.pull(0, 0, 5);
    due("sum(0, 1, 0) of one row", x.sum(0, 1, 0), 5);
    x.row(0);
    x.tear(0, 1);
    due("sum(0, 1, 0) of a MISSING last row", x.sum(0, 1, 0), 0);
    due("sum(0, 0, 0) over a MISSING last row", x.sum(0, 0, 0), 5);
    x.tear(0, 0);
    due("sum(0, 0, 0) without row 0", x.sum(0, 0, 0), 0);
  }

  private static void weak() {
    promise = 29;
    NetLoft x = plain(3, 3);
    due("weak(0)", x.weak(0), NONE);
    x.pull(0, 1, 50);
    due("weak(0) at 50 of 50", x.weak(0), NONE);
    x.pull(0, 1, 51);
    due("weak(0) at 51 of 50", x.weak(0), 1);
    x.pull(0, 1, 49);
    x.pull(0, 0, 50);
    // 50 + 49 / 2 at 100
    due("weak(0) in row 1", x.weak(0), 100);
    x.pull(0, 0, 26);
    due("weak(0) at 50 and a half", x.weak(0), 100);
    x.pull(0, 0, 25);
    // 100 has 49 and a half and 201 less, but 200 has that and half of 101
    due("weak(0) in row 2", x.weak(0), 200);
    due("weak(1)", x.weak(1), NONE);
    due("weak(-1)", x.weak(-1), NONE);
    x.tear(0, 1);
    due("weak(0) below a MISSING row", x.weak(0), NONE);
    x.panel(1, 1, 1000000);
    x.pull(1, 0, 100);
    due("weak(1) of the strongest", x.weak(1), NONE);
  }

  private static void count() {
    promise = 30;
    NetLoft x = plain(2, 2);
    due("count(0)", x.count(0), 1);
    due("count(1)", x.count(1), 101);
    x.side(0, 1, 0, 0, false);
    x.mend(0, 1, 0);
    due("count(2)", x.count(2), 2);
    for (int what : new int[] {-1, 3, HIGH, LOW}) due("count(" + what + ")", x.count(what), NONE);
    x.parts(NONE);
    due("count(1)", x.count(1), NONE);
    x.parts(0);
    due("count(1)", x.count(1), 0);
  }

  private static void panelOf() {
    promise = 31;
    NetLoft x = new NetLoft();
    x.panel(3, 11, 13);
    x.row(0);
    x.row(0);
    x.hang(0, 6, 8);
    x.needle(0, 0, 0, true);
    x.needle(0, 2, 2, true);
    x.side(0, 1, 0, 0, false);
    int[] told = {3, 11, 13, 6, 8, 9, 2, 10, 1};
    for (int what = 0; what < 9; what++) due("panelOf(0, " + what + ")", x.panelOf(0, what), told[what]);
    for (int what : new int[] {-1, 9, HIGH, LOW}) due("panelOf(0, " + what + ")", x.panelOf(0, what), NONE);
    for (int p : new int[] {-1, 1, 12, HIGH, LOW}) due("panelOf(" + p + ", 0)", x.panelOf(p, 0), NONE);
    x.panel(1, 1, 1);
    due("panelOf(1, 3)", x.panelOf(1, 3), 1);
    due("panelOf(1, 4)", x.panelOf(1, 4), 1);
  }
}
