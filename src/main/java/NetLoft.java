/** A loft where nets are made, torn and mended by counting meshes; ../shared/DOC.md says what each call answers. */
public final class NetLoft {
    public static final int NONE = -1;

    private static final int UNDER_NEEDLE = -2;
    private static final int NO_PART = -2;
    private static final int MOST_PANELS = 12;
    private static final int MOST_ROWS = 20;
    private static final int MOST_PLACES = 24;
    private static final int MOST_KNOTS = MOST_ROWS * MOST_PLACES;
    /** A KNOT gives at most 2, and one more can hang in it from the left. */
    private static final int MOST_HANGING_IN_ONE = 3;
    private static final int MOST_SIDES = MOST_HANGING_IN_ONE * MOST_KNOTS;
    private static final int MOST_PARTS = 101;
    private static final int MOST_BAR = 1000;
    private static final int MOST_STRENGTH = 1000000;
    private static final int MOST_GIRTH = 1000000;
    private static final int MOST_PULL = 100;
    private static final int MOST_SHAPINGS = 19;
    private static final int MOST_AHEAD = 1000;
    private static final long MOST_PLACES_AHEAD = 1000000000000L;
    private static final int MOST_ROPE = 1000;
    private static final int ROW_CODE = 100;
    private static final int FIRST_SIDE = 10;

    private static final int PLAIN = 0;
    private static final int GAIN = 1;
    private static final int TAKE = 2;
    private static final int SEWN = 3;

    private final Panel[] panels = new Panel[MOST_PANELS];
    private int panelCount;
    private final int[] partValues = new int[MOST_PARTS];
    private int partCount = MOST_PARTS;
    private final Hole holeAtHand = new Hole();
    private final Hole holeToMend = new Hole();
    private final Way wayAtHand = new Way();
    private final Taper latestTaper = new Taper();
    private final Seam latestSeam = new Seam();
    private final Loads loads = new Loads();

    public NetLoft() {
    }

    // ---- panels and their rows

    public int panel(int w, int bar, int strength) {
        if (panelCount >= MOST_PANELS || !within(w, 1, MOST_PLACES)) {
            return NONE;
        }
        if (!within(bar, 1, MOST_BAR) || !within(strength, 1, MOST_STRENGTH)) {
            return NONE;
        }
        Panel made = new Panel(bar, strength);
        made.append(new Row(w));
        return keep(made);
    }

    public int row(int p) {
        Panel at = panelAt(p);
        return at == null ? NONE : at.hangRow();
    }

    public boolean kind(int p, int k, int kind) {
        Panel at = panelAt(p);
        Row last = at == null ? null : at.lastRow();
        if (last == null || !last.has(k) || !within(kind, PLAIN, TAKE)) {
            return false;
        }
        if (kind == TAKE && k == 0) {
            return false;
        }
        last.turn(k, kind);
        return true;
    }

    public int shape(int p, int n, int e, int kind) {
        Panel at = panelAt(p);
        if (at == null || !within(n, 1, MOST_SHAPINGS) || !isRule(e, kind)) {
            return NONE;
        }
        return at.bearsShaping(n, e, kind) ? at.shapeRows(n, e, kind) : NONE;
    }

    public long ahead(int w, int n, int e, int kind) {
        if (!within(w, 1, MOST_AHEAD) || !within(n, 1, MOST_AHEAD) || !isRule(e, kind)) {
            return NONE;
        }
        long places = w;
        for (int i = 0; i < n; i++) {
            places = shapedPlaces(places, e, kind);
            if (places > MOST_PLACES_AHEAD) {
                return NONE;
            }
        }
        return places;
    }

    public int meshes(int p, int r) {
        Panel at = panelAt(p);
        Row asked = at == null ? null : at.rowAt(r);
        return asked == null ? NONE : asked.places;
    }

    public int of(int p, int r, int k, int what) {
        Panel at = panelAt(p);
        Row asked = at == null ? null : at.rowWith(r, k);
        if (asked == null) {
            return NONE;
        }
        switch (what) {
            case 0:
                return asked.kinds[k];
            case 1:
                return asked.gives[k];
            case 2:
                return asked.sides[k];
            case 3:
                return Integer.bitCount(asked.gone[k]);
            case 4:
                return asked.placeOfSide(k, 0);
            case 5:
                return asked.needles[k];
            case 6:
                return at.goneSidesAt(r, k);
            default:
                return what < FIRST_SIDE ? NONE : asked.placeOfSide(k, what - FIRST_SIDE);
        }
    }

    public int panelOf(int p, int what) {
        Panel at = panelAt(p);
        if (at == null) {
            return NONE;
        }
        switch (what) {
            case 0:
                return at.rowCount;
            case 1:
                return at.bar;
            case 2:
                return at.strength;
            case 3:
                return at.rope;
            case 4:
                return at.net;
            default:
                return at.totalOf(what);
        }
    }

    public int count(int what) {
        switch (what) {
            case 0:
                return panelCount;
            case 1:
                return partCount;
            case 2:
                return wayAtHand.size;
            default:
                return NONE;
        }
    }

    // ---- tearing

    public boolean side(int p, int r, int k, int s, boolean on) {
        Panel at = panelAt(p);
        Row asked = at == null ? null : at.rowWith(r, k);
        if (asked == null || s < 0 || s >= asked.sides[k]) {
            return false;
        }
        asked.setSide(k, s, on);
        return true;
    }

    public int cut(int p, int r, int k) {
        Panel at = panelAt(p);
        if (at == null || at.rowWith(r, k) == null) {
            return NONE;
        }
        return at.cutSidesAt(r, k);
    }

    public boolean tear(int p, int r) {
        Panel at = panelAt(p);
        Row torn = at == null ? null : at.rowAt(r);
        if (torn == null || torn.places == 0) {
            return false;
        }
        torn.places = 0;
        Row below = at.rowAt(r + 1);
        if (below != null) {
            below.hangInNothing();
        }
        return true;
    }

    public boolean needle(int p, int r, int k, boolean on) {
        Panel at = panelAt(p);
        Row asked = at == null ? null : at.rowWith(r, k);
        if (asked == null) {
            return false;
        }
        asked.needles[k] = on ? 1 : 0;
        return true;
    }

    // ---- holes

    public int hole(int p, int r, int k) {
        Panel at = panelAt(p);
        if (at == null || at.rowWith(r, k) == null) {
            return NONE;
        }
        holeAtHand.trace(at, r, k);
        return holeAtHand.size;
    }

    public int edge(int i, int what) {
        return holeAtHand.tell(i, what);
    }

    public int mend(int p, int r, int k) {
        Panel at = panelAt(p);
        if (at == null || at.rowWith(r, k) == null) {
            return NONE;
        }
        holeToMend.trace(at, r, k);
        int twines = holeToMend.twines();
        if (twines != 1) {
            return twines;
        }
        if (holeToMend.hasNeedle(at)) {
            return UNDER_NEEDLE;
        }
        wayAtHand.walk(at, holeToMend.beginning());
        return 1;
    }

    public int way(int i) {
        return wayAtHand.knotAt(i);
    }

    // ---- tapering and sewing

    public int taper(int w, int v, int d) {
        if (!within(w, 1, Taper.MOST_MESHES) || !within(v, 1, w) || !within(d, 1, Taper.MOST_LENGTH)) {
            return NONE;
        }
        return latestTaper.find(w - v, d);
    }

    public int cycle(int what) {
        return latestTaper.tell(what);
    }

    public int sew(int p, int q) {
        Panel upper = panelAt(p);
        Panel lower = panelAt(q);
        if (upper == null || lower == null || p == q || panelCount >= MOST_PANELS) {
            return NONE;
        }
        if (upper.rowCount + lower.rowCount > MOST_ROWS || !fitTogether(upper.lastRow(), lower.rowAt(0))) {
            return NONE;
        }
        Panel sewn = new Panel(upper.bar, upper.strength);
        sewn.rope = upper.rope;
        sewn.net = upper.net;
        sewn.appendCopies(upper);
        sewn.appendCopies(lower);
        latestSeam.join(sewn.rowAt(upper.rowCount - 1), sewn.rowAt(upper.rowCount));
        return keep(sewn);
    }

    public int match(int i) {
        return within(i, 0, latestSeam.size - 1) ? latestSeam.takes[i] : NONE;
    }

    // ---- hanging and fish

    public boolean hang(int p, int a, int b) {
        Panel at = panelAt(p);
        if (at == null || !within(b, 1, MOST_ROPE) || !within(a, 1, b)) {
            return false;
        }
        at.rope = a;
        at.net = b;
        return true;
    }

    public boolean parts(int n) {
        if (!within(n, NONE, MOST_PARTS)) {
            return false;
        }
        for (int i = 0; i < MOST_PARTS; i++) {
            partValues[i] = 0;
        }
        partCount = n;
        return true;
    }

    public boolean part(int i, int v) {
        if (!within(i, 0, partCount - 1) || !within(v, 0, 100)) {
            return false;
        }
        partValues[i] = v;
        return true;
    }

    public int open(int p) {
        Panel at = panelAt(p);
        return at == null ? NONE : openingOf(at);
    }

    public int slips(int p, int g) {
        Panel at = panelAt(p);
        if (at == null || !within(g, 0, MOST_GIRTH)) {
            return NONE;
        }
        int opening = openingOf(at);
        if (opening == NO_PART) {
            return NO_PART;
        }
        return 100 * g < 4 * at.bar * opening ? 1 : 0;
    }

    // ---- pulls and loads

    public boolean pull(int p, int k, int v) {
        Panel at = panelAt(p);
        if (at == null || at.rowWith(0, k) == null || !within(v, 0, MOST_PULL)) {
            return false;
        }
        at.pulls[k] = v;
        return true;
    }

    public long load(int p, int r, int k, int what) {
        Panel at = panelAt(p);
        if (at == null || at.rowWith(r, k) == null) {
            return NONE;
        }
        loads.leadDown(at);
        return Loads.term(loads.upper[r][k], what);
    }

    public long sum(int p, int at, int what) {
        Panel asked = panelAt(p);
        if (asked == null || !within(at, 0, 1)) {
            return NONE;
        }
        loads.leadDown(asked);
        return Loads.term(at == 0 ? loads.lost : loads.foot, what);
    }

    public int weak(int p) {
        Panel at = panelAt(p);
        if (at == null) {
            return NONE;
        }
        loads.leadDown(at);
        return loads.firstAbove(at);
    }

    // ---- what the calls share

    private static boolean within(int value, int least, int most) {
        return value >= least && value <= most;
    }

    private static boolean isRule(int e, int kind) {
        return within(e, 1, MOST_PLACES) && (kind == GAIN || kind == TAKE);
    }

    private static long shapedPlaces(long places, int e, int kind) {
        if (e <= 0) {
            return places;
        }
        long turned = places / e;
        if (kind == GAIN) {
            return places + turned;
        }
        // by every 1, PLACE 0 would be one of the TAKES, and stays PLAIN
        return e == 1 ? 1 : places - turned;
    }

    private static boolean fitTogether(Row upper, Row lower) {
        if (upper == null || lower == null || upper.places == 0 || lower.places == 0) {
            return false;
        }
        return upper.places <= 2 * lower.places && lower.places <= 2 * upper.places;
    }

    private Panel panelAt(int p) {
        return within(p, 0, panelCount - 1) ? panels[p] : null;
    }

    private int keep(Panel made) {
        if (panelCount >= MOST_PANELS) {
            return NONE;
        }
        panels[panelCount] = made;
        panelCount++;
        return panelCount - 1;
    }

    private int openingOf(Panel at) {
        if (at.net <= 0) {
            return NO_PART;
        }
        int asked = 100 * at.rope / at.net;
        return within(asked, 0, partCount - 1) ? partValues[asked] : NO_PART;
    }

    /** A ROW of KNOTS with the SIDES by which they hang in the ROW above; without places it is MISSING. */
    private static final class Row {
        int places;
        final int[] kinds = new int[MOST_PLACES];
        final int[] gives = new int[MOST_PLACES];
        final int[] needles = new int[MOST_PLACES];
        final int[] firsts = new int[MOST_PLACES];
        final int[] sides = new int[MOST_PLACES];
        /** One bit for each SIDE of a KNOT's own, set where it is GONE: 24 are the most. */
        final int[] gone = new int[MOST_PLACES];

        Row(int places) {
            this.places = within(places, 0, MOST_PLACES) ? places : 0;
            for (int k = 0; k < MOST_PLACES; k++) {
                gives[k] = 1;
            }
        }

        Row copied() {
            Row copy = new Row(places);
            System.arraycopy(kinds, 0, copy.kinds, 0, MOST_PLACES);
            System.arraycopy(gives, 0, copy.gives, 0, MOST_PLACES);
            System.arraycopy(needles, 0, copy.needles, 0, MOST_PLACES);
            System.arraycopy(firsts, 0, copy.firsts, 0, MOST_PLACES);
            System.arraycopy(sides, 0, copy.sides, 0, MOST_PLACES);
            System.arraycopy(gone, 0, copy.gone, 0, MOST_PLACES);
            return copy;
        }

        boolean has(int k) {
            return within(k, 0, places - 1);
        }

        void turn(int k, int kind) {
            kinds[k] = kind;
            gives[k] = kind == GAIN ? 2 : kind == TAKE ? 0 : 1;
        }

        void turnEvery(int e, int kind) {
            for (int k = 0; k < places; k++) {
                boolean turned = e > 0 && (k + 1) % e == 0 && !(kind == TAKE && k == 0);
                turn(k, turned ? kind : PLAIN);
            }
        }

        int givenInAll() {
            int all = 0;
            for (int k = 0; k < places; k++) {
                all += gives[k];
            }
            return all;
        }

        /** The next place behind k whose KNOT GIVES 1 or more; as many as there are places without such. */
        int giverBehind(int k) {
            for (int i = k + 1; i < places; i++) {
                if (gives[i] > 0) {
                    return i;
                }
            }
            return places;
        }

        void hangIn(Row above) {
            int k = 0;
            for (int first = 0; first < above.places; first++) {
                int behind = above.giverBehind(first);
                int end = k + above.gives[first];
                for (; k < end && k < places; k++) {
                    boolean reachesOver = k == end - 1 && behind < above.places;
                    firsts[k] = first;
                    sides[k] = behind - first + (reachesOver ? 1 : 0);
                    gone[k] = 0;
                }
            }
        }

        void hangInNothing() {
            for (int k = 0; k < MOST_PLACES; k++) {
                sides[k] = 0;
                gone[k] = 0;
            }
        }

        int placeOfSide(int k, int s) {
            return within(s, 0, sides[k] - 1) ? firsts[k] + s : NONE;
        }

        int placeOfWholeSide(int k, int s) {
            return sideIsGone(k, s) ? NONE : placeOfSide(k, s);
        }

        boolean hangsBy(int k, int place) {
            return within(place - firsts[k], 0, sides[k] - 1);
        }

        boolean isGone(int k, int place) {
            return hangsBy(k, place) && sideIsGone(k, place - firsts[k]);
        }

        boolean sideIsGone(int k, int s) {
            return (gone[k] >> s & 1) == 1;
        }

        boolean isWhole(int k, int place) {
            return hangsBy(k, place) && !isGone(k, place);
        }

        void setSide(int k, int s, boolean whole) {
            gone[k] = whole ? gone[k] & ~(1 << s) : gone[k] | 1 << s;
        }

        void setSideTo(int k, int place, boolean whole) {
            if (hangsBy(k, place)) {
                setSide(k, place - firsts[k], whole);
            }
        }

        int countOver(int what) {
            int total = 0;
            for (int k = 0; k < places; k++) {
                total += shareOf(k, what);
            }
            return total;
        }

        private int shareOf(int k, int what) {
            switch (what) {
                case 5:
                    return 1;
                case 6:
                    return needles[k];
                case 7:
                    return sides[k];
                case 8:
                    return Integer.bitCount(gone[k]);
                default:
                    return 0;
            }
        }
    }

    private static final class Panel {
        final int bar;
        final int strength;
        /** The HANGING, as told: rope of net. */
        int rope = 1;
        int net = 1;
        final Row[] rows = new Row[MOST_ROWS];
        int rowCount;
        final int[] pulls = new int[MOST_PLACES];

        Panel(int bar, int strength) {
            this.bar = bar;
            this.strength = strength;
        }

        Row rowAt(int r) {
            return within(r, 0, rowCount - 1) ? rows[r] : null;
        }

        Row lastRow() {
            return rowAt(rowCount - 1);
        }

        /** The ROW if it is there and has such a KNOT. */
        Row rowWith(int r, int k) {
            Row asked = rowAt(r);
            return asked != null && asked.has(k) ? asked : null;
        }

        void append(Row added) {
            if (rowCount < MOST_ROWS) {
                rows[rowCount] = added;
                rowCount++;
            }
        }

        void appendCopies(Panel other) {
            for (int r = 0; r < other.rowCount; r++) {
                Row source = other.rowAt(r);
                if (source != null) {
                    append(source.copied());
                }
            }
        }

        int hangRow() {
            Row last = lastRow();
            if (last == null || rowCount >= MOST_ROWS) {
                return NONE;
            }
            int places = last.givenInAll();
            if (!within(places, 1, MOST_PLACES)) {
                return NONE;
            }
            Row hung = new Row(places);
            hung.hangIn(last);
            append(hung);
            return places;
        }

        boolean bearsShaping(int n, int e, int kind) {
            Row last = lastRow();
            if (last == null || last.places == 0 || n > MOST_ROWS - rowCount) {
                return false;
            }
            long places = last.places;
            for (int i = 0; i < n; i++) {
                places = shapedPlaces(places, e, kind);
                if (places < 1 || places > MOST_PLACES) {
                    return false;
                }
            }
            return true;
        }

        int shapeRows(int n, int e, int kind) {
            int places = NONE;
            for (int i = 0; i < n; i++) {
                Row last = lastRow();
                if (last != null) {
                    last.turnEvery(e, kind);
                    places = hangRow();
                }
            }
            return places;
        }

        int goneSidesAt(int r, int k) {
            Row own = rowWith(r, k);
            if (own == null) {
                return 0;
            }
            int all = Integer.bitCount(own.gone[k]);
            Row below = rowAt(r + 1);
            for (int j = 0; below != null && j < below.places; j++) {
                all += below.isGone(j, k) ? 1 : 0;
            }
            return all;
        }

        int cutSidesAt(int r, int k) {
            Row own = rowWith(r, k);
            if (own == null) {
                return 0;
            }
            int wasWhole = own.sides[k] - Integer.bitCount(own.gone[k]);
            own.gone[k] = (1 << own.sides[k]) - 1;
            Row below = rowAt(r + 1);
            for (int j = 0; below != null && j < below.places; j++) {
                wasWhole += below.isWhole(j, k) ? 1 : 0;
                below.setSideTo(j, k, false);
            }
            return wasWhole;
        }

        /** The first place of the ROW above in which this KNOT's SIDE is GONE. */
        int goneAbove(int r, int k) {
            Row own = rowWith(r, k);
            for (int i = 0; own != null && i < MOST_PLACES; i++) {
                if (own.isGone(k, i)) {
                    return i;
                }
            }
            return NONE;
        }

        /** The first place of the ROW below whose KNOT hung in this one by a SIDE that is GONE. */
        int goneBelow(int r, int k) {
            Row below = rowAt(r + 1);
            for (int i = 0; below != null && i < below.places; i++) {
                if (below.isGone(i, k)) {
                    return i;
                }
            }
            return NONE;
        }

        int totalOf(int what) {
            if (!within(what, 5, 8)) {
                return NONE;
            }
            int total = 0;
            for (int r = 0; r < rowCount; r++) {
                Row counted = rowAt(r);
                total += counted == null ? 0 : counted.countOver(what);
            }
            return total;
        }
    }

    /** A HOLE as it was when it was traced. */
    private static final class Hole {
        boolean traced;
        int size;
        int goneSides;
        int oddOnes;
        final int[] knots = new int[MOST_KNOTS];
        final int[] odd = new int[MOST_KNOTS];
        private final int[][] reached = new int[MOST_ROWS][MOST_PLACES];
        private final int[] queue = new int[MOST_KNOTS];
        private int queued;

        void trace(Panel at, int r, int k) {
            clear();
            if (at.goneSidesAt(r, k) == 0) {
                return;
            }
            reach(r, k);
            for (int i = 0; i < queued && i < MOST_KNOTS; i++) {
                reachFrom(at, queue[i] / ROW_CODE, queue[i] % ROW_CODE);
            }
            listReached(at);
        }

        private void clear() {
            traced = true;
            size = 0;
            goneSides = 0;
            oddOnes = 0;
            queued = 0;
            for (int r = 0; r < MOST_ROWS; r++) {
                for (int k = 0; k < MOST_PLACES; k++) {
                    reached[r][k] = 0;
                }
            }
        }

        private void reach(int r, int k) {
            if (!within(r, 0, MOST_ROWS - 1) || !within(k, 0, MOST_PLACES - 1)) {
                return;
            }
            if (reached[r][k] == 0 && queued < MOST_KNOTS) {
                reached[r][k] = 1;
                queue[queued] = ROW_CODE * r + k;
                queued++;
            }
        }

        private void reachFrom(Panel at, int r, int k) {
            Row own = at.rowAt(r);
            for (int i = 0; own != null && i < MOST_PLACES; i++) {
                if (own.isGone(k, i)) {
                    reach(r - 1, i);
                }
            }
            Row below = at.rowAt(r + 1);
            for (int i = 0; below != null && i < below.places; i++) {
                if (below.isGone(i, k)) {
                    reach(r + 1, i);
                }
            }
        }

        private void listReached(Panel at) {
            int ends = 0;
            for (int r = 0; r < MOST_ROWS; r++) {
                for (int k = 0; k < MOST_PLACES; k++) {
                    if (reached[r][k] == 1 && size < MOST_KNOTS) {
                        int gone = at.goneSidesAt(r, k);
                        knots[size] = ROW_CODE * r + k;
                        odd[size] = gone % 2;
                        oddOnes += gone % 2;
                        ends += gone;
                        size++;
                    }
                }
            }
            goneSides = ends / 2;
        }

        int twines() {
            if (size == 0) {
                return 0;
            }
            return oddOnes == 0 ? 1 : oddOnes / 2;
        }

        int tell(int i, int what) {
            if (!traced) {
                return NONE;
            }
            switch (what) {
                case 0:
                    return within(i, 0, size - 1) ? knots[i] : NONE;
                case 1:
                    return within(i, 0, size - 1) ? odd[i] : NONE;
                case 2:
                    return goneSides;
                case 3:
                    return oddOnes;
                case 4:
                    return twines();
                default:
                    return NONE;
            }
        }

        boolean hasNeedle(Panel at) {
            for (int i = 0; i < size; i++) {
                int k = knots[i] % ROW_CODE;
                Row own = at.rowWith(knots[i] / ROW_CODE, k);
                if (own != null && own.needles[k] == 1) {
                    return true;
                }
            }
            return false;
        }

        int beginning() {
            for (int i = 0; i < size; i++) {
                if (odd[i] == 1) {
                    return knots[i];
                }
            }
            return knots[0];
        }
    }

    /** The WAY of the latest MENDING, kept from its end to its beginning. */
    private static final class Way {
        int size;
        private final int[] backwards = new int[MOST_SIDES + 1];
        private final int[] trail = new int[MOST_SIDES + 1];
        private int onTrail;

        int knotAt(int i) {
            return within(i, 0, size - 1) ? backwards[size - 1 - i] : NONE;
        }

        /**
         * Goes on to the first KNOT that it can until it is stuck, and closes KNOTS from there back, with a round
         * wherever GONE SIDES are left. A side that was gone along too early comes behind such a round by itself,
         * so this is the first of all ways.
         */
        void walk(Panel at, int beginning) {
            size = 0;
            onTrail = 0;
            goTo(beginning);
            for (int step = 0; step < 2 * MOST_SIDES + 2 && onTrail > 0; step++) {
                int knot = trail[onTrail - 1];
                int next = mendOneFrom(at, knot / ROW_CODE, knot % ROW_CODE);
                if (next == NONE) {
                    goBackFrom(knot);
                } else {
                    goTo(next);
                }
            }
        }

        private void goTo(int knot) {
            if (onTrail <= MOST_SIDES) {
                trail[onTrail] = knot;
                onTrail++;
            }
        }

        private void goBackFrom(int knot) {
            onTrail--;
            if (size <= MOST_SIDES) {
                backwards[size] = knot;
                size++;
            }
        }

        /** Makes the SIDE to the KNOT that comes first whole, and tells that KNOT. */
        private static int mendOneFrom(Panel at, int r, int k) {
            int above = at.goneAbove(r, k);
            if (above != NONE) {
                makeWhole(at.rowAt(r), k, above);
                return ROW_CODE * (r - 1) + above;
            }
            int below = at.goneBelow(r, k);
            if (below != NONE) {
                makeWhole(at.rowAt(r + 1), below, k);
                return ROW_CODE * (r + 1) + below;
            }
            return NONE;
        }

        private static void makeWhole(Row lower, int k, int place) {
            if (lower != null) {
                lower.setSideTo(k, place, true);
            }
        }
    }

    /** The latest TAPER; of no rows at all ahead of any. */
    private static final class Taper {
        static final int MOST_MESHES = 1000;
        static final int MOST_LENGTH = 400;

        private int length;
        private int rows;
        private int takes;

        /**
         * In d ROWS a CYCLE takes the whole part of d * t / l, as the whole CYCLES take whole numbers. So for an l
         * the least t that takes enough is the only one that can take just that many.
         */
        int find(int taken, int d) {
            for (int l = 1; d > 0 && l <= d; l++) {
                int t = (taken * l + d - 1) / d;
                if (d * t / l == taken) {
                    length = d;
                    rows = l;
                    takes = t;
                    return l;
                }
            }
            return NONE;
        }

        int tell(int what) {
            if (rows == 0) {
                return NONE;
            }
            switch (what) {
                case 0:
                    return rows;
                case 1:
                    return takes;
                case 2:
                    return length / rows;
                case 3:
                    return length % rows;
                default:
                    return NONE;
            }
        }
    }

    /** How many each KNOT of the lesser row took in the latest SEWING; of none ahead of any. */
    private static final class Seam {
        int size;
        final int[] takes = new int[MOST_PLACES];

        void join(Row upper, Row lower) {
            if (upper == null || lower == null) {
                return;
            }
            spread(Math.min(upper.places, lower.places), Math.max(upper.places, lower.places));
            for (int k = 0; k < upper.places; k++) {
                upper.kinds[k] = SEWN;
                upper.gives[k] = 0;
            }
            if (upper.places <= lower.places) {
                System.arraycopy(takes, 0, upper.gives, 0, size);
            } else {
                giveOneEach(upper);
            }
            lower.hangIn(upper);
        }

        private void spread(int lesser, int greater) {
            size = within(lesser, 0, MOST_PLACES) ? lesser : 0;
            for (int i = 0; i < size; i++) {
                takes[i] = (i + 1) * greater / size - i * greater / size;
            }
        }

        private void giveOneEach(Row upper) {
            int k = 0;
            for (int i = 0; i < size; i++) {
                if (upper.has(k)) {
                    upper.gives[k] = 1;
                }
                k += takes[i];
            }
        }
    }

    /**
     * Exact LOADS, as upper parts over one lower part. A KNOT's LOAD goes to 1, 2 or 3 SIDES and down 19 rows at
     * most, so 6 to the 19th holds every part; 24 PULLS of 100 times that still fit a long.
     */
    private static final class Loads {
        private static final long LOWER = 609359740010496L;

        long lost;
        long foot;
        final long[][] upper = new long[MOST_ROWS][MOST_PLACES];
        private final int[] wholeSides = new int[MOST_PLACES];

        void leadDown(Panel at) {
            lost = 0;
            foot = 0;
            for (int k = 0; k < MOST_PLACES; k++) {
                upper[0][k] = at.pulls[k] * LOWER;
            }
            for (int r = 0; r < at.rowCount; r++) {
                Row own = at.rowAt(r);
                Row below = at.rowAt(r + 1);
                if (own != null && below != null) {
                    countWholeSides(below);
                    lose(r, own);
                    handOn(r, below);
                } else if (own != null) {
                    foot = inAll(r, own);
                }
            }
        }

        private void countWholeSides(Row below) {
            for (int k = 0; k < MOST_PLACES; k++) {
                wholeSides[k] = 0;
            }
            for (int j = 0; j < below.places; j++) {
                for (int s = 0; s < below.sides[j]; s++) {
                    int k = below.placeOfWholeSide(j, s);
                    if (within(k, 0, MOST_PLACES - 1)) {
                        wholeSides[k]++;
                    }
                }
            }
        }

        private void lose(int r, Row own) {
            for (int k = 0; k < own.places; k++) {
                if (wholeSides[k] == 0) {
                    lost += upper[r][k];
                }
            }
        }

        private void handOn(int r, Row below) {
            for (int j = 0; j < below.places; j++) {
                upper[r + 1][j] = 0;
                for (int s = 0; s < below.sides[j]; s++) {
                    int k = below.placeOfWholeSide(j, s);
                    if (within(k, 0, MOST_PLACES - 1) && wholeSides[k] > 0) {
                        upper[r + 1][j] += upper[r][k] / wholeSides[k];
                    }
                }
            }
        }

        private long inAll(int r, Row own) {
            long all = 0;
            for (int k = 0; k < own.places; k++) {
                all += upper[r][k];
            }
            return all;
        }

        int firstAbove(Panel at) {
            for (int r = 0; r < at.rowCount; r++) {
                Row own = at.rowAt(r);
                for (int k = 0; own != null && k < own.places; k++) {
                    if (isAbove(upper[r][k], at.strength)) {
                        return ROW_CODE * r + k;
                    }
                }
            }
            return NONE;
        }

        /** Compared by whole parts, as strength times the lower part would not fit a long. */
        private static boolean isAbove(long load, int strength) {
            long whole = load / LOWER;
            return whole > strength || whole == strength && load % LOWER > 0;
        }

        static long term(long load, int what) {
            long divisor = commonDivisor(load, LOWER);
            if (!within(what, 0, 1) || divisor <= 0) {
                return NONE;
            }
            return (what == 0 ? load : LOWER) / divisor;
        }

        private static long commonDivisor(long a, long b) {
            long greater = a;
            long lesser = b;
            for (int step = 0; step < 200 && lesser != 0; step++) {
                long rest = greater % lesser;
                greater = lesser;
                lesser = rest;
            }
            return greater;
        }
    }
}
