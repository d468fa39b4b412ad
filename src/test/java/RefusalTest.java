import java.util.ArrayList;
import java.util.List;
import java.util.function.Consumer;

/**
 * "What is refused changes nothing": each refused call is made on one of two objects that are made alike, and all that
 * can be asked of the two must be alike behind it. So must it be behind each call that only asks.
 */
public final class RefusalTest {
  private static final int NONE = NetLoft.NONE;
  private static final int LOW = Integer.MIN_VALUE;
  private static final int HIGH = Integer.MAX_VALUE;
  private static int wrong = 0;
  private static int refused = 0;

  private interface Call {
    long answer(NetLoft x);
  }

  public static void main(String[] args) {
    whatIsAtHand();
    panelsAndRows();
    kindsAndShapes();
    tearing();
    holesAndWays();
    tapersAndSeams();
    hangingAndParts();
    pullsAndLoads();
    whereItIsFull();
    whatOnlyAsks();
    System.out.println(wrong == 0 ? refused + " calls changed nothing" : wrong + " calls are not as due");
    if (wrong != 0) System.exit(1);
  }

  private static long one(boolean b) {
    return b ? 1 : 0;
  }

  /**
   * PANEL 0: ROWS of 2 and 3, with KINDS, a NEEDLE, PULLS; 1: of 2 and a MISSING one; 2: of 7; 3: 0 SEWN to 1. A HOLE, a
   * WAY, a TAPER and a seam are at hand.
   */
  private static void scene(NetLoft x) {
    x.panel(2, 20, 5);
    x.kind(0, 1, 1);
    x.row(0);
    x.kind(0, 2, 2);
    x.needle(0, 0, 0, true);
    x.pull(0, 0, 7);
    x.pull(0, 1, 9);
    x.hang(0, 2, 3);
    x.part(66, 40);
    x.part(100, 60);
    x.panel(2, 30, 4);
    x.row(1);
    x.tear(1, 1);
    x.panel(7, 3, 2);
    x.sew(0, 1);
    x.taper(12, 8, 11);
    x.side(0, 1, 1, 0, false);
    x.cut(3, 2, 1);
    x.mend(3, 2, 1);
    x.side(3, 1, 0, 0, false);
    x.side(3, 1, 0, 1, false);
    x.hole(3, 1, 0);
  }

  private static void full(NetLoft x) {
    for (int p = 0; p < 12; p++) x.panel(1, p + 1, p + 1);
    x.shape(1, 19, 2, 1);
    for (int r = 1; r < 18; r++) x.tear(1, r);
    x.pull(11, 0, 5);
  }

  private static List<Long> picture(NetLoft x) {
    List<Long> seen = new ArrayList<>();
    for (int what = 0; what < 3; what++) seen.add((long) x.count(what));
    for (int p = 0; p < x.count(0); p++) addPanel(x, p, seen);
    for (int i = 0; i < 4; i++) {
      seen.add((long) x.edge(i, 0));
      seen.add((long) x.edge(i, 1));
      seen.add((long) x.way(i));
      seen.add((long) x.cycle(i));
      seen.add((long) x.match(i));
    }
    for (int what = 2; what < 5; what++) seen.add((long) x.edge(0, what));
    return seen;
  }

  private static void addPanel(NetLoft x, int p, List<Long> seen) {
    for (int what = 0; what < 9; what++) seen.add((long) x.panelOf(p, what));
    for (int at = 0; at < 4; at++) seen.add(x.sum(p, at / 2, at % 2));
    seen.add((long) x.weak(p));
    seen.add((long) x.open(p));
    for (int r = 0; r < x.panelOf(p, 0); r++) {
      for (int k = 0; k < x.meshes(p, r); k++) {
        for (int what : new int[] {0, 1, 3, 5, 6, 10, 11}) seen.add((long) x.of(p, r, k, what));
        for (int what = 0; what < 2; what++) seen.add(x.load(p, r, k, what));
      }
    }
  }

  private static void leaves(String words, Consumer<NetLoft> made, Call call, long want) {
    refused++;
    NetLoft x = new NetLoft();
    NetLoft twin = new NetLoft();
    made.accept(x);
    made.accept(twin);
    long got = call.answer(x);
    List<Long> seen = picture(x);
    List<Long> due = picture(twin);
    if (seen.size() > 440) fault(words + ": an object is used for at most 512 calls");
    if (got != want) fault(words + " answered " + got + ", due is " + want);
    if (!seen.equals(due)) fault(words + " changed " + due + " to " + seen);
  }

  private static void fault(String words) {
    wrong++;
    System.out.println(words);
  }

  private static void refuse(String words, Call call, long want) {
    leaves(words, RefusalTest::scene, call, want);
  }

  /** A refused call can change only what is there. */
  private static void whatIsAtHand() {
    refuse("count of the WAY", x -> x.count(2), 3);
    refuse("edge of the HOLE", x -> x.edge(2, 0), 100);
    refuse("cycle of the TAPER", x -> x.cycle(1), 2);
    refuse("match of the seam", x -> x.match(1), 2);
    refuse("MISSING ROW of the new PANEL", x -> x.meshes(3, 3), 0);
    leaves("full: PANELS", RefusalTest::full, x -> x.count(0), 12);
    leaves("full: ROWS", RefusalTest::full, x -> x.panelOf(1, 0), 20);
  }

  private static void panelsAndRows() {
    int[][] panels = {{0, 1, 1}, {25, 1, 1}, {1, 0, 1}, {1, 1001, 1}, {1, 1, 0}, {1, 1, 1000001}, {LOW, HIGH, LOW}};
    for (int[] b : panels) refuse("panel " + b[0] + " " + b[1] + " " + b[2], x -> x.panel(b[0], b[1], b[2]), NONE);
    for (int p : new int[] {LOW, -1, 1, 4, 12, HIGH}) {
      refuse("row " + p, x -> x.row(p), NONE);
      refuse("shape " + p, x -> x.shape(p, 1, 2, 2), NONE);
      refuse("kind " + p, x -> one(x.kind(p, 1, 1)), 0);
    }
  }

  private static void kindsAndShapes() {
    int[][] kinds = {{0, -1, 1}, {0, 3, 1}, {0, 1, -1}, {0, 1, 3}, {0, 0, 2}, {0, LOW, HIGH}, {2, 7, 1}, {2, 0, 2}};
    for (int[] b : kinds) refuse("kind " + b[0] + " " + b[1] + " " + b[2], x -> one(x.kind(b[0], b[1], b[2])), 0);
    int[][] shapes = {{0, 0, 1, 1}, {0, 20, 3, 1}, {0, 1, 0, 1}, {0, 1, 25, 1}, {0, 1, 1, 0}, {0, 1, 1, 3}, {0, 4, 1, 1},
      {0, 19, 1, 2}, {2, 2, 1, 1}, {2, LOW, HIGH, 1}};
    for (int[] b : shapes) {
      refuse("shape " + b[0] + " " + b[1] + " " + b[2] + " " + b[3], x -> x.shape(b[0], b[1], b[2], b[3]), NONE);
    }
    int[][] aheads = {{0, 1, 1, 1}, {1001, 1, 1, 1}, {1, 0, 1, 1}, {1, 1001, 1, 1}, {1, 1, 0, 1}, {1, 1, 1, 3}, {1, 40, 1, 1}};
    for (int[] b : aheads) refuse("ahead", x -> x.ahead(b[0], b[1], b[2], b[3]), NONE);
  }

  /** KNOTS that the scene has not. */
  private static int[][] noKnots() {
    return new int[][] {{-1, 0, 0}, {4, 0, 0}, {0, -1, 0}, {0, 2, 0}, {0, 0, -1}, {0, 0, 2}, {0, 1, 3}, {1, 1, 0}, {3, 3, 0},
      {3, 4, 0}, {LOW, LOW, LOW}, {HIGH, HIGH, HIGH}};
  }

  private static void tearing() {
    for (int[] b : noKnots()) {
      refuse("side of no KNOT", x -> one(x.side(b[0], b[1], b[2], 0, false)), 0);
      refuse("cut of no KNOT", x -> x.cut(b[0], b[1], b[2]), NONE);
      refuse("needle on no KNOT", x -> one(x.needle(b[0], b[1], b[2], true)), 0);
    }
    int[][] sides = {{0, 0, 0, 0}, {0, 1, 0, -1}, {0, 1, 0, 2}, {0, 1, 1, 1}, {0, 1, 1, 32}, {0, 1, 1, LOW}, {0, 1, 1, HIGH}};
    for (int[] b : sides) {
      refuse("side of none, off", x -> one(x.side(b[0], b[1], b[2], b[3], false)), 0);
      refuse("side of none, on", x -> one(x.side(b[0], b[1], b[2], b[3], true)), 0);
    }
    int[][] rows = {{-1, 0}, {4, 0}, {0, -1}, {0, 2}, {1, 1}, {3, 3}, {3, 4}, {LOW, HIGH}};
    for (int[] b : rows) refuse("tear " + b[0] + " " + b[1], x -> one(x.tear(b[0], b[1])), 0);
  }

  private static void holesAndWays() {
    for (int[] b : noKnots()) {
      refuse("hole of no KNOT", x -> x.hole(b[0], b[1], b[2]), NONE);
      refuse("mend of no KNOT", x -> x.mend(b[0], b[1], b[2]), NONE);
    }
    refuse("mend of no HOLE", x -> x.mend(2, 0, 0), 0);
    leaves("mend of 2 TWINES", x -> {
      scene(x);
      x.cut(3, 0, 1);
    }, x -> x.mend(3, 1, 1), 2);
    leaves("mend under a NEEDLE", x -> {
      scene(x);
      x.needle(0, 0, 1, true);
    }, x -> x.mend(0, 1, 1), -2);
  }

  private static void tapersAndSeams() {
    int[][] tapers = {{0, 0, 1}, {0, 1, 1}, {1001, 1, 1}, {5, 0, 1}, {5, 6, 1}, {5, 4, 0}, {5, 4, 401}, {LOW, LOW, HIGH}};
    for (int[] b : tapers) refuse("taper " + b[0] + " " + b[1] + " " + b[2], x -> x.taper(b[0], b[1], b[2]), NONE);
    int[][] sews = {{-1, 0}, {0, -1}, {0, 4}, {4, 0}, {0, 0}, {3, 3}, {1, 0}, {3, 0}, {0, 2}, {2, 0}, {LOW, HIGH}};
    for (int[] b : sews) refuse("sew " + b[0] + " " + b[1], x -> x.sew(b[0], b[1]), NONE);
    leaves("sew to a MISSING first ROW", x -> {
      scene(x);
      x.tear(1, 0);
    }, x -> x.sew(0, 1), NONE);
  }

  private static void hangingAndParts() {
    int[][] hangs = {{-1, 1, 1}, {4, 1, 1}, {0, 0, 1}, {0, -1, 1}, {0, 2, 1}, {0, 1, 0}, {0, 1, 1001}, {0, LOW, HIGH}, {0, -2, -1}};
    for (int[] b : hangs) refuse("hang " + b[0] + " " + b[1] + " " + b[2], x -> one(x.hang(b[0], b[1], b[2])), 0);
    for (int n : new int[] {LOW, -2, 102, HIGH}) refuse("parts " + n, x -> one(x.parts(n)), 0);
    int[][] parts = {{-1, 1}, {101, 1}, {66, -1}, {66, 101}, {100, LOW}, {HIGH, 1}};
    for (int[] b : parts) refuse("part " + b[0] + " " + b[1], x -> one(x.part(b[0], b[1])), 0);
    leaves("part of MISSING ones", x -> {
      scene(x);
      x.parts(NONE);
    }, x -> one(x.part(0, 1)), 0);
    leaves("part behind a short row", x -> {
      scene(x);
      x.parts(66);
    }, x -> one(x.part(66, 1)), 0);
    for (int p : new int[] {-1, 4}) refuse("open " + p, x -> x.open(p), NONE);
    int[][] slips = {{-1, 1}, {4, 1}, {0, -1}, {0, 1000001}, {0, LOW}, {0, HIGH}};
    for (int[] b : slips) refuse("slips " + b[0] + " " + b[1], x -> x.slips(b[0], b[1]), NONE);
  }

  private static void pullsAndLoads() {
    int[][] pulls = {{-1, 0, 1}, {4, 0, 1}, {0, -1, 1}, {0, 2, 1}, {0, 0, -1}, {0, 0, 101}, {0, 1, LOW}, {0, LOW, 1}, {0, HIGH, 1}};
    for (int[] b : pulls) refuse("pull " + b[0] + " " + b[1] + " " + b[2], x -> one(x.pull(b[0], b[1], b[2])), 0);
    leaves("pull at a MISSING ROW 0", x -> {
      scene(x);
      x.tear(0, 0);
    }, x -> one(x.pull(0, 0, 1)), 0);
    for (int[] b : noKnots()) refuse("load of no KNOT", x -> x.load(b[0], b[1], b[2], 0), NONE);
    refuse("load of another what", x -> x.load(0, 0, 0, 2), NONE);
    int[][] sums = {{-1, 0, 0}, {4, 0, 0}, {0, 2, 0}, {0, -1, 0}, {0, 0, 2}, {0, 1, -1}};
    for (int[] b : sums) refuse("sum " + b[0] + " " + b[1] + " " + b[2], x -> x.sum(b[0], b[1], b[2]), NONE);
    for (int p : new int[] {-1, 4, 12}) refuse("weak " + p, x -> x.weak(p), NONE);
    for (int what : new int[] {-1, 3}) refuse("count " + what, x -> x.count(what), NONE);
    for (int what : new int[] {-1, 9}) refuse("panelOf " + what, x -> x.panelOf(0, what), NONE);
  }

  private static void whereItIsFull() {
    Consumer<NetLoft> twelve = RefusalTest::full;
    leaves("a 13th PANEL", twelve, x -> x.panel(1, 1, 1), NONE);
    leaves("a 13th PANEL, SEWN", twelve, x -> x.sew(2, 3), NONE);
    leaves("a 21st ROW", twelve, x -> x.row(1), NONE);
    leaves("a 21st ROW, SHAPED", twelve, x -> x.shape(1, 1, 1, 1), NONE);
    leaves("a 25th PLACE at the fifth time", twelve, x -> x.shape(11, 5, 1, 1), NONE);
    Consumer<NetLoft> wide = x -> {
      x.panel(24, 1, 1);
      x.kind(0, 7, 1);
      x.pull(0, 7, 5);
    };
    leaves("a 25th PLACE", wide, x -> x.row(0), NONE);
    leaves("a 25th PLACE, SHAPED", wide, x -> x.shape(0, 1, 24, 1), NONE);
    Consumer<NetLoft> many = x -> {
      x.panel(2, 1, 1);
      x.shape(0, 10, 3, 1);
      x.panel(2, 1, 1);
      x.shape(1, 9, 3, 1);
      x.pull(0, 1, 3);
    };
    leaves("21 ROWS, SEWN", many, x -> x.sew(0, 1), NONE);
    leaves("21 ROWS, SEWN", many, x -> x.sew(1, 0), NONE);
    leaves("21 ROWS, SHAPED", many, x -> x.shape(0, 10, 2, 2), NONE);
  }

  private static void whatOnlyAsks() {
    refuse("ahead", x -> x.ahead(5, 2, 2, 1), 10);
    refuse("meshes", x -> x.meshes(0, 1), 3);
    refuse("of", x -> x.of(0, 1, 1, 3), 1);
    refuse("edge", x -> x.edge(0, 4), 1);
    refuse("way", x -> x.way(9), NONE);
    refuse("cycle", x -> x.cycle(0), 5);
    refuse("match", x -> x.match(1), 2);
    refuse("open", x -> x.open(0), 40);
    refuse("slips", x -> x.slips(0, 31), 1);
    refuse("load", x -> x.load(0, 0, 1, 0), 9);
    refuse("sum", x -> x.sum(0, 1, 1), 1);
    refuse("weak", x -> x.weak(0), 0);
    refuse("count", x -> x.count(0), 4);
    refuse("panelOf", x -> x.panelOf(0, 4), 3);
    refuse("needle that lies already", x -> one(x.needle(0, 0, 0, true)), 1);
    refuse("side that is GONE already", x -> one(x.side(0, 1, 1, 0, false)), 1);
    refuse("hang as it is", x -> one(x.hang(0, 2, 3)), 1);
    refuse("hole at hand already", x -> x.hole(3, 1, 0), 3);
    refuse("taper as the latest", x -> x.taper(12, 8, 11), 5);
  }
}
