import java.util.Arrays;

/** A tapestry shop; the document's promises say what each call answers. */
public final class WeftShop {
    public static final int NUMBER = -1;
    public static final int FULL = -2;
    public static final int DOWN = -3;
    public static final int NONE = -4;
    public static final int BIG = -5;

    private static final int MOST_COLUMNS = 12;
    private static final int MOST_ROWS = 10;
    private static final int MOST_SQUARES = 120;
    private static final int COLOURS = 8;
    private static final int FACE = 8;
    private static final int FACE_WORK = 3;
    private static final int MOST_LOTS = 12;
    private static final int MOST_YARN = 300;
    private static final int MOST_WEAVERS = 4;
    private static final int MOST_SPEED = 20;
    private static final int MOST_DAYS = 100;
    private static final int MOST_RULE = 10;
    private static final int DEALT_FIELDS = 8;
    private static final int DEALT_LOTS = 4;
    private static final int FIELD_SETS = 256;
    private static final int FAR = 1000000;

    private final Shop now;
    private final Shop kept;
    private boolean hasKept;
    private int longestOpen;
    private int gap;
    private final FieldMap fields;
    private final Dealing dealing;
    private final Sharing sharing;

    public WeftShop() {
        now = new Shop();
        kept = new Shop();
        hasKept = false;
        longestOpen = 3;
        gap = 10;
        fields = new FieldMap();
        dealing = new Dealing();
        sharing = new Sharing();
    }

    // ---- the cartoon

    public int size(int columns, int rows) {
        if (!isFromTo(columns, 1, MOST_COLUMNS) || !isFromTo(rows, 1, MOST_ROWS)) {
            return NUMBER;
        }
        now.board.renew(columns, rows);
        now.loom.takeDown();
        return columns * rows;
    }

    public int paint(int c, int r, int w, int h, int colour) {
        Board board = now.board;
        if (!isOnBoard(c, w, board.columns) || !isOnBoard(r, h, board.rows) || !isColour(colour)) {
            return NUMBER;
        }
        for (int row = r; row < r + h; row++) {
            for (int column = c; column < c + w; column++) {
                board.dip(board.cellOfCartoon(column, row), colour);
            }
        }
        now.loom.takeDown();
        return w * h;
    }

    public int face(int c, int r, boolean is) {
        Board board = now.board;
        if (!board.hasSquare(c, r)) {
            return NUMBER;
        }
        int cell = board.cellOfCartoon(c, r);
        if (board.hasFace(cell) == is) {
            return 0;
        }
        board.turnFace(cell);
        now.loom.takeDown();
        return 1;
    }

    public int cartoon(int c, int r) {
        Board board = now.board;
        return board.hasSquare(c, r) ? board.squares[board.cellOfCartoon(c, r)] : NUMBER;
    }

    public int loom(int warp, int pick) {
        Board board = now.board;
        return board.hasSquare(warp, pick) ? board.squares[cellOf(warp, pick)] : NUMBER;
    }

    public int rule(int what, int v) {
        if (what == 0 && isFromTo(v, 0, MOST_RULE)) {
            int was = longestOpen;
            longestOpen = v;
            return was;
        }
        if (what == 1 && isFromTo(v, 1, MOST_RULE)) {
            int was = gap;
            gap = v;
            return was;
        }
        return NUMBER;
    }

    public int slits(int what) {
        if (!isFromTo(what, 0, 3)) {
            return NUMBER;
        }
        Board board = now.board;
        int told = 0;
        for (int warp = 0; warp < board.columns - 1; warp++) {
            for (int pick = 0; pick < board.rows; pick++) {
                told = addSlit(what, told, board.lengthOfSlitFrom(warp, pick));
            }
        }
        return told;
    }

    public int slit(int warp, int pick) {
        Board board = now.board;
        if (!board.hasSquare(warp, pick) || warp == board.columns - 1) {
            return NUMBER;
        }
        return board.slitLength(warp, pick);
    }

    // ---- fields, lots

    public int field(int warp, int pick) {
        if (!now.board.hasSquare(warp, pick)) {
            return NUMBER;
        }
        fields.find(now.board);
        return fields.fieldAt[cellOf(warp, pick)];
    }

    public int of(int field, int what) {
        fields.find(now.board);
        if (!isBelow(field, fields.count)) {
            return NUMBER;
        }
        switch (what) {
            case 0:
                return fields.colours[field];
            case 1:
                return fields.areas[field];
            case 2:
                return fields.yarns[field];
            case 3:
                return fields.leastPlaces[field];
            default:
                return NUMBER;
        }
    }

    public int dye(int colour, int yarn) {
        if (!isColour(colour) || !isFromTo(yarn, 1, MOST_YARN)) {
            return NUMBER;
        }
        return now.lots.count == MOST_LOTS ? FULL : now.lots.add(colour, yarn);
    }

    public int lot(int lot, int what) {
        if (!isBelow(lot, now.lots.count)) {
            return NUMBER;
        }
        switch (what) {
            case 0:
                return now.lots.colours[lot];
            case 1:
                return now.lots.yarns[lot];
            case 2:
                return findDealing(now.lots.colours[lot]) ? dealing.yarnFrom(lot, fields) : BIG;
            default:
                return NUMBER;
        }
    }

    public int deal(int field) {
        fields.find(now.board);
        if (!isBelow(field, fields.count)) {
            return NUMBER;
        }
        return findDealing(fields.colours[field]) ? dealing.lotFor(field) : BIG;
    }

    public int dealt(int colour, int what) {
        if (!isColour(colour) || !isFromTo(what, 0, 2)) {
            return NUMBER;
        }
        if (!findDealing(colour)) {
            return BIG;
        }
        if (what == 0) {
            return dealing.yarnInAll(fields);
        }
        int served = dealing.countServed();
        return what == 1 ? served : dealing.fieldCount - served;
    }

    // ---- weavers

    public int weaver(int speed, boolean master) {
        if (!isFromTo(speed, 1, MOST_SPEED)) {
            return NUMBER;
        }
        if (now.weavers.count == MOST_WEAVERS) {
            return FULL;
        }
        now.loom.takeDown();
        return now.weavers.add(speed, master);
    }

    public int speed(int weaver, int speed) {
        if (!isBelow(weaver, now.weavers.count) || !isFromTo(speed, 1, MOST_SPEED)) {
            return NUMBER;
        }
        int was = now.weavers.speeds[weaver];
        now.weavers.speeds[weaver] = speed;
        now.loom.takeDown();
        return was;
    }

    public int share(int what) {
        if (!isFromTo(what, 0, 1)) {
            return NUMBER;
        }
        if (!sharing.find(now.board, now.weavers)) {
            return NONE;
        }
        return what == 0 ? sharing.days : sharing.strips;
    }

    public int who(int warp) {
        if (!isBelow(warp, now.board.columns)) {
            return NUMBER;
        }
        return sharing.find(now.board, now.weavers) ? sharing.weaverAt(warp) : NONE;
    }

    public int up() {
        if (!sharing.find(now.board, now.weavers)) {
            return NONE;
        }
        now.loom.setUp(sharing, now.board);
        return now.loom.strips;
    }

    // ---- weaving

    public int days(int n) {
        if (!isFromTo(n, 1, MOST_DAYS)) {
            return NUMBER;
        }
        if (!now.loom.isUp()) {
            return DOWN;
        }
        for (int day = 0; day < n; day++) {
            now.loom.weaveDay(now.weavers, gap);
        }
        return now.loom.fewestWholePicks();
    }

    public int strip(int strip, int what) {
        Loom loom = now.loom;
        if (!loom.isUp()) {
            return DOWN;
        }
        if (!isBelow(strip, loom.strips)) {
            return NUMBER;
        }
        switch (what) {
            case 0:
                return loom.weavers[strip];
            case 1:
                return loom.firstWarps[strip];
            case 2:
                return loom.widths[strip];
            case 3:
                return loom.done[strip];
            case 4:
                return loom.workOf(strip);
            case 5:
                return loom.wholePicks(strip);
            case 6:
                return loom.wouldGoOn(strip, gap) ? 1 : 0;
            default:
                return NUMBER;
        }
    }

    public int woven(int warp, int pick) {
        if (!now.loom.isUp()) {
            return DOWN;
        }
        if (!now.board.hasSquare(warp, pick)) {
            return NUMBER;
        }
        return now.loom.isWoven(now.board, warp, pick) ? 1 : 0;
    }

    public int unweave(int strip, int pick) {
        if (!now.loom.isUp()) {
            return DOWN;
        }
        if (!isBelow(strip, now.loom.strips) || !isBelow(pick, now.board.rows)) {
            return NUMBER;
        }
        return now.loom.unweaveFrom(strip, pick);
    }

    public int many(int what) {
        switch (what) {
            case 0:
                return now.board.columns;
            case 1:
                return now.board.rows;
            case 2:
                fields.find(now.board);
                return fields.count;
            case 3:
                return now.lots.count;
            case 4:
                return now.weavers.count;
            case 5:
                return now.loom.strips;
            case 6:
                return now.loom.countWoven(now.board);
            case 7:
                return now.loom.days;
            case 8:
                return now.board.countFaces();
            default:
                return NUMBER;
        }
    }

    // ---- kept

    public int keep() {
        kept.copyFrom(now);
        hasKept = true;
        return 1;
    }

    public int back() {
        if (!hasKept) {
            return NONE;
        }
        now.copyFrom(kept);
        return 1;
    }

    private boolean findDealing(int colour) {
        fields.find(now.board);
        return dealing.find(colour, fields, now.lots);
    }

    private static boolean isFromTo(int number, int least, int most) {
        return number >= least && number <= most;
    }

    private static boolean isBelow(int number, int limit) {
        return number >= 0 && number < limit;
    }

    private static boolean isColour(int colour) {
        return isBelow(colour, COLOURS);
    }

    // The limit less the start can't overflow; start and length together could.
    private static boolean isOnBoard(int start, int length, int limit) {
        return start >= 0 && length >= 1 && length <= limit - start;
    }

    // Cells have a fixed stride, so that no divisor depends on the cartoon; PLACES don't.
    private static int cellOf(int warp, int pick) {
        return pick * MOST_COLUMNS + warp;
    }

    private int addSlit(int what, int told, int length) {
        if (what == 3) {
            return Math.max(told, length);
        }
        boolean counts = length > (what == 0 ? 0 : longestOpen);
        return counts ? told + (what == 2 ? length : 1) : told;
    }

    /** All that keep() keeps and back() brings back. */
    private static final class Shop {
        final Board board;
        final Lots lots;
        final Weavers weavers;
        final Loom loom;

        Shop() {
            board = new Board();
            lots = new Lots();
            weavers = new Weavers();
            loom = new Loom();
        }

        void copyFrom(Shop other) {
            board.copyFrom(other.board);
            lots.copyFrom(other.lots);
            weavers.copyFrom(other.weavers);
            loom.copyFrom(other.loom);
        }
    }

    /** THE CARTOON as it lies on THE LOOM: a square is its COLOUR, and 8 more with a FACE. */
    private static final class Board {
        int columns;
        int rows;
        final int[] squares;

        Board() {
            columns = 1;
            rows = 1;
            squares = new int[MOST_SQUARES];
        }

        void renew(int newColumns, int newRows) {
            columns = newColumns;
            rows = newRows;
            Arrays.fill(squares, 0);
        }

        void copyFrom(Board other) {
            columns = other.columns;
            rows = other.rows;
            System.arraycopy(other.squares, 0, squares, 0, MOST_SQUARES);
        }

        boolean hasSquare(int across, int along) {
            return isBelow(across, columns) && isBelow(along, rows);
        }

        int cellOfCartoon(int column, int row) {
            return cellOf(columns - 1 - column, row);
        }

        int colourAt(int cell) {
            return squares[cell] & (FACE - 1);
        }

        boolean hasFace(int cell) {
            return (squares[cell] & FACE) != 0;
        }

        int workAt(int cell) {
            return hasFace(cell) ? FACE_WORK : 1;
        }

        void dip(int cell, int colour) {
            squares[cell] = (squares[cell] & FACE) | colour;
        }

        void turnFace(int cell) {
            squares[cell] ^= FACE;
        }

        int countFaces() {
            int faces = 0;
            for (int warp = 0; warp < columns; warp++) {
                faces += facesOfWarp(warp);
            }
            return faces;
        }

        int facesOfWarp(int warp) {
            int faces = 0;
            for (int pick = 0; pick < rows; pick++) {
                if (hasFace(cellOf(warp, pick))) {
                    faces++;
                }
            }
            return faces;
        }

        int workOfWarp(int warp) {
            return rows + (FACE_WORK - 1) * facesOfWarp(warp);
        }

        boolean isSlitAt(int warp, int pick) {
            return colourAt(cellOf(warp, pick)) != colourAt(cellOf(warp + 1, pick));
        }

        int slitLength(int warp, int pick) {
            int start = pick;
            while (start > 0 && isSlitAt(warp, start) && isSlitAt(warp, start - 1)) {
                start--;
            }
            return lengthOfSlitFrom(warp, start);
        }

        /** 0 unless a slit begins at this very pick, so that each slit is told once. */
        int lengthOfSlitFrom(int warp, int start) {
            if (start > 0 && isSlitAt(warp, start - 1)) {
                return 0;
            }
            int end = start;
            while (end < rows && isSlitAt(warp, end)) {
                end++;
            }
            return end - start;
        }
    }

    private static final class Lots {
        int count;
        final int[] colours;
        final int[] yarns;

        Lots() {
            count = 0;
            colours = new int[MOST_LOTS];
            yarns = new int[MOST_LOTS];
        }

        int add(int colour, int yarn) {
            colours[count] = colour;
            yarns[count] = yarn;
            count++;
            return count - 1;
        }

        void copyFrom(Lots other) {
            count = other.count;
            System.arraycopy(other.colours, 0, colours, 0, MOST_LOTS);
            System.arraycopy(other.yarns, 0, yarns, 0, MOST_LOTS);
        }
    }

    private static final class Weavers {
        int count;
        final int[] speeds;
        final boolean[] masters;

        Weavers() {
            count = 0;
            speeds = new int[MOST_WEAVERS];
            masters = new boolean[MOST_WEAVERS];
        }

        int add(int speed, boolean master) {
            speeds[count] = speed;
            masters[count] = master;
            count++;
            return count - 1;
        }

        int daysFor(int weaver, int work) {
            int speed = speeds[weaver];
            return speed < 1 ? FAR : (work + speed - 1) / speed;
        }

        void copyFrom(Weavers other) {
            count = other.count;
            for (int weaver = 0; weaver < MOST_WEAVERS; weaver++) {
                speeds[weaver] = other.speeds[weaver];
                masters[weaver] = other.masters[weaver];
            }
        }
    }

    /** FIELDS of a board, found anew for each call that asks: nothing can be out of date. */
    private static final class FieldMap {
        int count;
        final int[] fieldAt;
        final int[] colours;
        final int[] areas;
        final int[] yarns;
        final int[] leastPlaces;
        private final int[] queue;
        private int queued;

        FieldMap() {
            count = 0;
            fieldAt = new int[MOST_SQUARES];
            colours = new int[MOST_SQUARES];
            areas = new int[MOST_SQUARES];
            yarns = new int[MOST_SQUARES];
            leastPlaces = new int[MOST_SQUARES];
            queue = new int[MOST_SQUARES];
            queued = 0;
        }

        // Going by picks, the first square met of a field is the one of its least PLACE.
        void find(Board board) {
            count = 0;
            Arrays.fill(fieldAt, -1);
            for (int pick = 0; pick < board.rows; pick++) {
                for (int warp = 0; warp < board.columns; warp++) {
                    if (fieldAt[cellOf(warp, pick)] < 0) {
                        leastPlaces[count] = pick * board.columns + warp;
                        spread(board, cellOf(warp, pick));
                        count++;
                    }
                }
            }
        }

        private void spread(Board board, int firstCell) {
            colours[count] = board.colourAt(firstCell);
            yarns[count] = 0;
            queued = 0;
            join(firstCell);
            for (int turn = 0; turn < queued && turn < MOST_SQUARES; turn++) {
                int warp = queue[turn] % MOST_COLUMNS;
                int pick = queue[turn] / MOST_COLUMNS;
                yarns[count] += 2;
                look(board, warp - 1, pick);
                look(board, warp + 1, pick);
                look(board, warp, pick - 1);
                look(board, warp, pick + 1);
            }
            areas[count] = queued;
        }

        private void look(Board board, int warp, int pick) {
            if (!board.hasSquare(warp, pick)) {
                return;
            }
            int cell = cellOf(warp, pick);
            if (board.colourAt(cell) != colours[count]) {
                yarns[count]++;
            } else if (fieldAt[cell] < 0) {
                join(cell);
            }
        }

        private void join(int cell) {
            if (queued < MOST_SQUARES) {
                fieldAt[cell] = count;
                queue[queued] = cell;
                queued++;
            }
        }
    }

    /**
     * THE DEALING of a colour. A dealing is worth its yarn times ORDERS, less its order: the
     * digits, to the base of 5, of what its fields get (0 to 3: a lot, 4: none), the first field's
     * foremost. No two dealings are worth the same, and the worth of parts adds up, so that the
     * best can be found lot by lot over the sets of fields that are left.
     */
    private static final class Dealing {
        private static final int ORDERS = 390625;
        private static final int NO_LOT = 4;

        int fieldCount;
        private final int[] fieldNumbers;
        private final int[] gotten;
        private int lotCount;
        private final int[] lotNumbers;
        private final int[] yarnOfSet;
        private final int[] orderOfSet;
        private final int[] bestOfSet;
        private final int[] choices;

        Dealing() {
            fieldCount = 0;
            fieldNumbers = new int[DEALT_FIELDS];
            gotten = new int[DEALT_FIELDS];
            lotCount = 0;
            lotNumbers = new int[DEALT_LOTS];
            yarnOfSet = new int[FIELD_SETS];
            orderOfSet = new int[FIELD_SETS];
            bestOfSet = new int[FIELD_SETS];
            choices = new int[DEALT_LOTS * FIELD_SETS];
        }

        /** False: there are too many fields or lots of the colour. */
        boolean find(int colour, FieldMap fields, Lots lots) {
            if (!gatherFields(colour, fields) || !gatherLots(colour, lots)) {
                return false;
            }
            weighSets(fields);
            for (int lot = lotCount - 1; lot >= 0; lot--) {
                addLot(lot, lots.yarns[lotNumbers[lot]]);
            }
            readChoices();
            return true;
        }

        private boolean gatherFields(int colour, FieldMap fields) {
            fieldCount = 0;
            for (int field = 0; field < fields.count; field++) {
                if (fields.colours[field] == colour) {
                    if (fieldCount == DEALT_FIELDS) {
                        return false;
                    }
                    fieldNumbers[fieldCount] = field;
                    fieldCount++;
                }
            }
            return true;
        }

        private boolean gatherLots(int colour, Lots lots) {
            lotCount = 0;
            for (int lot = 0; lot < lots.count; lot++) {
                if (lots.colours[lot] == colour) {
                    if (lotCount == DEALT_LOTS) {
                        return false;
                    }
                    lotNumbers[lotCount] = lot;
                    lotCount++;
                }
            }
            return true;
        }

        // A set is weighed by its last field and the set without it, which is weighed by then.
        private void weighSets(FieldMap fields) {
            yarnOfSet[0] = 0;
            orderOfSet[0] = 0;
            bestOfSet[0] = 0;
            int digit = 1;
            for (int field = fieldCount - 1; field >= 0; field--) {
                int sets = 1 << (fieldCount - 1 - field);
                for (int set = 0; set < sets; set++) {
                    int with = set + sets;
                    yarnOfSet[with] = yarnOfSet[set] + fields.yarns[fieldNumbers[field]];
                    orderOfSet[with] = orderOfSet[set] + digit;
                    bestOfSet[with] = -NO_LOT * orderOfSet[with];
                }
                digit *= NO_LOT + 1;
            }
        }

        // From the greatest set down: the lesser ones, which it needs, are still without this lot.
        private void addLot(int lot, int yarn) {
            for (int set = (1 << fieldCount) - 1; set >= 0; set--) {
                int best = bestOfSet[set];
                int choice = 0;
                // part gets less with each turn, and is 0 in the end
                for (int part = set; part > 0; part = (part - 1) & set) {
                    if (yarnOfSet[part] <= yarn) {
                        int worth = yarnOfSet[part] * ORDERS - lot * orderOfSet[part] + bestOfSet[set - part];
                        if (worth > best) {
                            best = worth;
                            choice = part;
                        }
                    }
                }
                bestOfSet[set] = best;
                choices[lot * FIELD_SETS + set] = choice;
            }
        }

        private void readChoices() {
            Arrays.fill(gotten, NO_LOT);
            int left = (1 << fieldCount) - 1;
            for (int lot = 0; lot < lotCount; lot++) {
                int part = choices[lot * FIELD_SETS + left];
                for (int field = 0; field < fieldCount; field++) {
                    if ((part >> (fieldCount - 1 - field) & 1) == 1) {
                        gotten[field] = lot;
                    }
                }
                left -= part;
            }
        }

        int lotFor(int fieldNumber) {
            for (int field = 0; field < fieldCount; field++) {
                if (fieldNumbers[field] == fieldNumber && gotten[field] < lotCount) {
                    return lotNumbers[gotten[field]];
                }
            }
            return NONE;
        }

        int yarnFrom(int lotNumber, FieldMap fields) {
            int yarn = 0;
            for (int field = 0; field < fieldCount; field++) {
                if (gotten[field] < lotCount && lotNumbers[gotten[field]] == lotNumber) {
                    yarn += fields.yarns[fieldNumbers[field]];
                }
            }
            return yarn;
        }

        int yarnInAll(FieldMap fields) {
            int yarn = 0;
            for (int lot = 0; lot < lotCount; lot++) {
                yarn += yarnFrom(lotNumbers[lot], fields);
            }
            return yarn;
        }

        int countServed() {
            int served = 0;
            for (int field = 0; field < fieldCount; field++) {
                if (gotten[field] < lotCount) {
                    served++;
                }
            }
            return served;
        }
    }

    /** THE SHARING: all are tried in the order that the document sets, and a later one must be better. */
    private static final class Sharing {
        int days;
        int strips;
        final int[] weavers;
        final int[] widths;
        private int columns;
        private final int[] workTo;
        private final int[] facesTo;
        private final int[] triedWeavers;
        private final int[] triedWidths;

        Sharing() {
            days = FAR;
            strips = 0;
            weavers = new int[MOST_WEAVERS];
            widths = new int[MOST_WEAVERS];
            columns = 0;
            workTo = new int[MOST_COLUMNS + 1];
            facesTo = new int[MOST_COLUMNS + 1];
            triedWeavers = new int[MOST_WEAVERS];
            triedWidths = new int[MOST_WEAVERS];
        }

        /** False: there is none. */
        boolean find(Board board, Weavers all) {
            days = FAR;
            strips = 0;
            columns = board.columns;
            for (int warp = 0; warp < columns; warp++) {
                workTo[warp + 1] = workTo[warp] + board.workOfWarp(warp);
                facesTo[warp + 1] = facesTo[warp] + board.facesOfWarp(warp);
            }
            tryFrom(this, all, 0, 0, 0, 0);
            return strips > 0;
        }

        private static void tryFrom(Sharing s, Weavers all, int strip, int warp, int soFar, int taken) {
            if (warp == s.columns) {
                s.takeIfBetter(strip, soFar);
                return;
            }
            if (strip >= MOST_WEAVERS) {
                return;
            }
            for (int weaver = 0; weaver < all.count; weaver++) {
                if ((taken >> weaver & 1) == 1) {
                    continue;
                }
                for (int width = 1; width <= s.columns - warp; width++) {
                    int most = Math.max(soFar, s.daysOfStrip(all, weaver, warp, width));
                    // a wider strip takes no fewer days
                    if (most > s.days || most == FAR) {
                        break;
                    }
                    s.triedWeavers[strip] = weaver;
                    s.triedWidths[strip] = width;
                    tryFrom(s, all, strip + 1, warp + width, most, taken | 1 << weaver);
                }
            }
        }

        private int daysOfStrip(Weavers all, int weaver, int warp, int width) {
            if (facesTo[warp + width] > facesTo[warp] && !all.masters[weaver]) {
                return FAR;
            }
            return all.daysFor(weaver, workTo[warp + width] - workTo[warp]);
        }

        private void takeIfBetter(int triedStrips, int triedDays) {
            if (triedDays > days || (triedDays == days && triedStrips >= strips)) {
                return;
            }
            days = triedDays;
            strips = triedStrips;
            System.arraycopy(triedWeavers, 0, weavers, 0, MOST_WEAVERS);
            System.arraycopy(triedWidths, 0, widths, 0, MOST_WEAVERS);
        }

        int weaverAt(int warp) {
            int end = 0;
            for (int strip = 0; strip < strips; strip++) {
                end += widths[strip];
                if (warp < end) {
                    return weavers[strip];
                }
            }
            return NONE;
        }
    }

    /** THE LOOM's strips; it is DOWN when it has none. */
    private static final class Loom {
        private static final int STRIDE = MOST_ROWS + 1;

        int strips;
        int days;
        final int[] weavers;
        final int[] firstWarps;
        final int[] widths;
        final int[] done;
        private int picks;
        // WORK of a strip's squares of lesser picks; it stays true, as what changes it takes THE LOOM down
        private final int[] workBelow;
        private final int[] wholeAtDawn;

        Loom() {
            strips = 0;
            days = 0;
            weavers = new int[MOST_WEAVERS];
            firstWarps = new int[MOST_WEAVERS];
            widths = new int[MOST_WEAVERS];
            done = new int[MOST_WEAVERS];
            picks = 0;
            workBelow = new int[MOST_WEAVERS * STRIDE];
            wholeAtDawn = new int[MOST_WEAVERS];
        }

        boolean isUp() {
            return strips > 0;
        }

        void takeDown() {
            strips = 0;
            days = 0;
        }

        void setUp(Sharing sharing, Board board) {
            strips = sharing.strips;
            days = 0;
            picks = board.rows;
            int warp = 0;
            for (int strip = 0; strip < strips; strip++) {
                weavers[strip] = sharing.weavers[strip];
                firstWarps[strip] = warp;
                widths[strip] = sharing.widths[strip];
                done[strip] = 0;
                measure(board, strip);
                warp += widths[strip];
            }
        }

        private void measure(Board board, int strip) {
            int work = 0;
            workBelow[strip * STRIDE] = 0;
            for (int pick = 0; pick < picks; pick++) {
                work += workInPick(board, strip, pick, firstWarps[strip] + widths[strip] - 1);
                workBelow[strip * STRIDE + pick + 1] = work;
            }
        }

        private int workInPick(Board board, int strip, int pick, int lastWarp) {
            int work = 0;
            for (int warp = firstWarps[strip]; warp <= lastWarp; warp++) {
                work += board.workAt(cellOf(warp, pick));
            }
            return work;
        }

        int workOf(int strip) {
            return workBelow[strip * STRIDE + picks];
        }

        int wholePicks(int strip) {
            int whole = 0;
            while (whole < picks && workBelow[strip * STRIDE + whole + 1] <= done[strip]) {
                whole++;
            }
            return whole;
        }

        int fewestWholePicks() {
            int fewest = picks;
            for (int strip = 0; strip < strips; strip++) {
                fewest = Math.min(fewest, wholePicks(strip));
            }
            return fewest;
        }

        void weaveDay(Weavers all, int gap) {
            beginDay();
            for (int strip = 0; strip < strips; strip++) {
                if (!isTooFarAhead(strip, gap)) {
                    done[strip] = Math.min(done[strip] + all.speeds[weavers[strip]], workOf(strip));
                }
            }
            days++;
        }

        boolean wouldGoOn(int strip, int gap) {
            beginDay();
            return done[strip] < workOf(strip) && !isTooFarAhead(strip, gap);
        }

        // A day goes by the whole picks at its beginning, not by what a strip beside has since.
        private void beginDay() {
            for (int strip = 0; strip < strips; strip++) {
                wholeAtDawn[strip] = wholePicks(strip);
            }
        }

        private boolean isTooFarAhead(int strip, int gap) {
            int whole = wholeAtDawn[strip];
            return (strip > 0 && whole - wholeAtDawn[strip - 1] >= gap)
                || (strip < strips - 1 && whole - wholeAtDawn[strip + 1] >= gap);
        }

        boolean isWoven(Board board, int warp, int pick) {
            int strip = stripAt(warp);
            int before = workBelow[strip * STRIDE + pick];
            return before + workInPick(board, strip, pick, warp) <= done[strip];
        }

        private int stripAt(int warp) {
            int strip = 0;
            while (strip < strips - 1 && warp >= firstWarps[strip + 1]) {
                strip++;
            }
            return strip;
        }

        int countWoven(Board board) {
            int count = 0;
            for (int strip = 0; strip < strips; strip++) {
                count += countWovenOf(board, strip);
            }
            return count;
        }

        private int countWovenOf(Board board, int strip) {
            int count = 0;
            int work = 0;
            for (int pick = 0; pick < picks; pick++) {
                for (int warp = firstWarps[strip]; warp < firstWarps[strip] + widths[strip]; warp++) {
                    work += board.workAt(cellOf(warp, pick));
                    if (work <= done[strip]) {
                        count++;
                    }
                }
            }
            return count;
        }

        int unweaveFrom(int strip, int pick) {
            int was = done[strip];
            done[strip] = Math.min(was, workBelow[strip * STRIDE + pick]);
            return was - done[strip];
        }

        void copyFrom(Loom other) {
            strips = other.strips;
            days = other.days;
            picks = other.picks;
            System.arraycopy(other.weavers, 0, weavers, 0, MOST_WEAVERS);
            System.arraycopy(other.firstWarps, 0, firstWarps, 0, MOST_WEAVERS);
            System.arraycopy(other.widths, 0, widths, 0, MOST_WEAVERS);
            System.arraycopy(other.done, 0, done, 0, MOST_WEAVERS);
            System.arraycopy(other.workBelow, 0, workBelow, 0, MOST_WEAVERS * STRIDE);
        }
    }
}
