import java.io.IOException;

/** Each sentence of the promises: what a call answers, the edges that the sentence names, what is refused. */
public final class PromiseTest extends SentenceTest {
    private static final int[] WRONG_WHATS = {-1, LOW, HIGH};

    public static void main(String[] args) throws IOException {
        newObject();
        size();
        sizeRefused();
        paint();
        paintRefused();
        face();
        faceRefused();
        faceNotNew();
        cartoon();
        cartoonRefused();
        loom();
        loomRefused();
        rule();
        ruleRefused();
        slits();
        slitsRefused();
        slit();
        slitRefused();
        field();
        fieldRefused();
        of();
        ofRefused();
        dye();
        dyeRefused();
        lot();
        lotRefused();
        deal();
        dealRefused();
        dealt();
        dealtRefused();
        weaver();
        weaverRefused();
        speed();
        speedRefused();
        share();
        shareRefused();
        who();
        whoRefused();
        up();
        upRefused();
        days();
        daysRefused();
        strip();
        stripRefused();
        woven();
        wovenRefused();
        unweave();
        unweaveRefused();
        many();
        manyRefused();
        keep();
        back();
        backRefused();
        end("PromiseTest", "Promise");
    }

    // ---- 1

    private static void newObject() {
        sentence("Promise 1", "A CARTOON of 1 column, 1 row; no LOTS, WEAVERS; THE LOOM is DOWN; nothing is kept.");
        crowded();
        WeftShop x = new WeftShop();
        int[] want = {1, 1, 1, 0, 0, 0, 0, 0, 0};
        for (int what = 0; what < want.length; what++) {
            due("many(" + what + ")", x.many(what), want[what]);
        }
        due("its square", x.cartoon(0, 0), 0);
        due("a second column", x.cartoon(1, 0), NUMBER);
        due("a second row", x.cartoon(0, 1), NUMBER);
        due("a lot", x.lot(0, 0), NUMBER);
        due("a weaver", x.speed(0, 1), NUMBER);
        due("a sharing", x.share(0), NONE);
        due("down", x.days(1), DOWN);
        due("down", x.strip(0, 0), DOWN);
        due("nothing kept", x.back(), NONE);
        due("the first lot", x.dye(0, 1), 0);
        due("the first weaver", x.weaver(1, false), 0);
    }

    // ---- 2

    private static void size() {
        sentence("Promise 2", "A new CARTOON, all of COLOUR 0, without FACES: how many SQUARES.");
        WeftShop x = new WeftShop();
        for (int columns = 1; columns <= 12; columns++) {
            for (int rows = 1; rows <= 10; rows++) {
                due("size(" + columns + ", " + rows + ")", x.size(columns, rows), columns * rows);
                due("columns", x.many(0), columns);
                due("rows", x.many(1), rows);
            }
        }
        WeftShop y = sized(12, 10);
        y.paint(0, 0, 12, 10, 5);
        for (int place = 0; place < 120; place += 7) {
            y.face(place % 12, place / 12, true);
        }
        due("as large as it was", y.size(12, 10), 120);
        allBlank(y);
        y.paint(0, 0, 12, 10, 3);
        y.face(11, 9, true);
        y.face(0, 0, true);
        due("smaller", y.size(1, 1), 1);
        due("blank", y.cartoon(0, 0), 0);
        due("no faces", y.many(8), 0);
        due("large again", y.size(12, 10), 120);
        allBlank(y);
        WeftShop kept = busy();
        kept.size(3, 7);
        due("lots stay", kept.many(3), 3);
        due("weavers stay", kept.many(4), 3);
        due("S stays", kept.rule(0, 0), 1);
        due("G stays", kept.rule(1, 1), 2);
        due("what is kept stays", kept.back(), 1);
        due("what is kept stays", kept.many(0), 4);
    }

    private static void allBlank(WeftShop x) {
        for (int place = 0; place < 120; place++) {
            due("blank at " + place, x.cartoon(place % 12, place / 12), 0);
        }
        due("no faces", x.many(8), 0);
    }

    private static void sizeRefused() {
        sentence("Promise 2", "NUMBER: columns aren't 1 to 12, or rows not 1 to 10.");
        int[][] refused = {{0, 1}, {13, 1}, {1, 0}, {1, 11}, {-1, 5}, {5, -1}, {12, 11}, {13, 10}, {0, 0}, {10, 12},
            {LOW, 1}, {1, LOW}, {HIGH, 1}, {1, HIGH}, {LOW, LOW}, {HIGH, HIGH}, {65536, 65536}};
        for (int[] a : refused) {
            refuses(SentenceTest::busy, NUMBER, "size(" + a[0] + ", " + a[1] + ")", x -> x.size(a[0], a[1]));
        }
    }

    // ---- 3

    private static void paint() {
        sentence("Promise 3", "SQUARES of THE CARTOON in columns c <= i < c + w, rows r <= j < r + h get a COLOUR:"
            + " how many.");
        int[][] paints = {{0, 0, 1, 1}, {11, 9, 1, 1}, {0, 0, 12, 10}, {3, 2, 4, 5}, {11, 0, 1, 10}, {0, 9, 12, 1}, {5, 4, 7, 6}};
        for (int[] a : paints) {
            WeftShop x = sized(12, 10);
            due("paint", x.paint(a[0], a[1], a[2], a[3], 7), a[2] * a[3]);
            for (int i = 0; i < 12; i++) {
                for (int j = 0; j < 10; j++) {
                    boolean in = a[0] <= i && i < a[0] + a[2] && a[1] <= j && j < a[1] + a[3];
                    due("column " + i + ", row " + j, x.cartoon(i, j), in ? 7 : 0);
                }
            }
        }
        WeftShop y = sized(3, 2);
        y.face(1, 1, true);
        due("over a face", y.paint(0, 0, 3, 2, 5), 6);
        due("the face stays", y.cartoon(1, 1), 13);
        due("the same colour counts", y.paint(0, 0, 3, 2, 5), 6);
        due("colour 0", y.paint(1, 1, 2, 1, 0), 2);
        due("the face stays", y.cartoon(1, 1), 8);
        due("painted over", y.cartoon(2, 1), 0);
        due("not painted over", y.cartoon(0, 1), 5);
    }

    private static void paintRefused() {
        sentence("Promise 3", "NUMBER: w or h is below 1, it isn't on the board whole, or there is no such COLOUR.");
        int[][] refused = {
            // w or h below 1
            {0, 0, 0, 1, 5}, {0, 0, 1, 0, 5}, {0, 0, -1, 1, 5}, {0, 0, 1, -1, 5}, {0, 0, LOW, 1, 5}, {0, 0, 1, LOW, 5},
            {4, 0, 0, 1, 5}, {0, 3, 1, 0, 5}, {2, 0, -1, 1, 5}, {0, 2, 1, -1, 5}, {0, 0, -1, -1, 5},
            // not on the board, 4 columns and 3 rows, or not whole
            {-1, 0, 1, 1, 5}, {0, -1, 1, 1, 5}, {4, 0, 1, 1, 5}, {0, 3, 1, 1, 5}, {0, 0, 5, 1, 5}, {0, 0, 1, 4, 5},
            {3, 0, 2, 1, 5}, {0, 2, 1, 2, 5}, {-1, 0, 2, 1, 5}, {0, -1, 1, 2, 5}, {LOW, 0, 1, 1, 5}, {0, LOW, 1, 1, 5},
            {HIGH, 0, 1, 1, 5}, {0, HIGH, 1, 1, 5},
            // c + w or r + h beyond what an int holds
            {1, 0, HIGH, 1, 5}, {0, 1, 1, HIGH, 5}, {HIGH, 0, HIGH, 1, 5}, {0, HIGH, 1, HIGH, 5}, {HIGH, 0, 2, 1, 5},
            {0, HIGH, 1, 2, 5}, {LOW, 0, HIGH, 1, 5}, {0, LOW, 1, HIGH, 5}, {LOW, LOW, LOW, LOW, 5}, {LOW, 0, LOW, 1, 5},
            // no such colour
            {0, 0, 1, 1, 8}, {0, 0, 1, 1, -1}, {0, 0, 1, 1, LOW}, {0, 0, 1, 1, HIGH}, {0, 0, 4, 3, 16}};
        for (int[] a : refused) {
            String name = "paint(" + a[0] + ", " + a[1] + ", " + a[2] + ", " + a[3] + ", " + a[4] + ")";
            refuses(SentenceTest::busy, NUMBER, name, x -> x.paint(a[0], a[1], a[2], a[3], a[4]));
        }
    }

    // ---- 4

    private static void face() {
        sentence("Promise 4", "A SQUARE of THE CARTOON has a FACE (true) or none: 1 if that is new, else 0.");
        WeftShop x = sized(12, 10);
        x.paint(0, 0, 12, 10, 7);
        int[][] corners = {{0, 0}, {11, 0}, {0, 9}, {11, 9}};
        for (int[] at : corners) {
            due("none is not new", x.face(at[0], at[1], false), 0);
            due("new", x.face(at[0], at[1], true), 1);
            due("its colour stays", x.cartoon(at[0], at[1]), 15);
            due("not new", x.face(at[0], at[1], true), 0);
            due("still there", x.cartoon(at[0], at[1]), 15);
        }
        due("faces", x.many(8), 4);
        due("taken off", x.face(11, 9, false), 1);
        due("its colour stays", x.cartoon(11, 9), 7);
        due("not new", x.face(11, 9, false), 0);
        due("faces", x.many(8), 3);
        due("another one stays", x.cartoon(0, 9), 15);
    }

    private static final int[][] NO_SQUARES = {{-1, 0}, {4, 0}, {0, -1}, {0, 3}, {3, 3}, {4, 2}, {-1, 1}, {12, 0}, {0, 10},
        {LOW, 0}, {0, LOW}, {HIGH, 0}, {0, HIGH}, {LOW, LOW}, {HIGH, HIGH}};

    private static String at(int[] a) {
        return "(" + a[0] + ", " + a[1] + ")";
    }

    private static void faceRefused() {
        sentence("Promise 4", "NUMBER: there is none such.");
        for (int[] a : NO_SQUARES) {
            refuses(SentenceTest::busy, NUMBER, "face" + at(a), x -> x.face(a[0], a[1], true));
            refuses(SentenceTest::busy, NUMBER, "no face" + at(a), x -> x.face(a[0], a[1], false));
        }
    }

    private static void faceNotNew() {
        sentence("Promise 4", "(THE LOOM is DOWN only if it is new.)");
        WeftShop x = busy();
        due("a face that is there", x.face(1, 1, true), 0);
        due("no face where none is", x.face(0, 0, false), 0);
        due("days go on", x.many(7), 2);
        due("a face that is new", x.face(0, 0, true), 1);
        due("down", x.many(7), 0);
        due("down", x.days(1), DOWN);
        due("up", x.up(), 3);
        due("a face that is gone", x.face(0, 0, false), 1);
        due("down", x.days(1), DOWN);
        due("not new, while it is down", x.face(0, 0, false), 0);
        due("down", x.many(5), 0);
    }

    // ---- 5

    private static void cartoon() {
        sentence("Promise 5", "COLOUR of a SQUARE of THE CARTOON, 8 more with a FACE.");
        WeftShop x = sized(8, 2);
        for (int colour = 0; colour < 8; colour++) {
            x.paint(colour, 0, 1, 2, colour);
            x.face(colour, 1, true);
        }
        for (int colour = 0; colour < 8; colour++) {
            due("without", x.cartoon(colour, 0), colour);
            due("with", x.cartoon(colour, 1), 8 + colour);
        }
    }

    private static void cartoonRefused() {
        sentence("Promise 5", "NUMBER: there is none such.");
        for (int[] a : NO_SQUARES) {
            refuses(SentenceTest::busy, NUMBER, "cartoon" + at(a), x -> x.cartoon(a[0], a[1]));
        }
        due("the last square", busy().cartoon(3, 2), 2);
    }

    // ---- 6

    private static void loom() {
        sentence("Promise 6", "COLOUR of a SQUARE of THE LOOM, 8 more with a FACE.");
        WeftShop x = sized(8, 2);
        for (int colour = 0; colour < 8; colour++) {
            x.paint(colour, 0, 1, 2, colour);
            x.face(colour, 1, true);
        }
        for (int colour = 0; colour < 8; colour++) {
            due("without", x.loom(7 - colour, 0), colour);
            due("with", x.loom(7 - colour, 1), 8 + colour);
        }
        due("though it is down", x.many(5), 0);
    }

    private static void loomRefused() {
        sentence("Promise 6", "NUMBER: there is none such.");
        for (int[] a : NO_SQUARES) {
            refuses(SentenceTest::busy, NUMBER, "loom" + at(a), x -> x.loom(a[0], a[1]));
        }
        due("the last square's warp", busy().loom(0, 2), 2);
    }

    // ---- 7

    private static void rule() {
        sentence("Promise 7", "What = 0 S (0 to 10), 1 G (1 to 10) is v: what it was.");
        WeftShop x = new WeftShop();
        int s = 3;
        for (int v = 0; v <= 10; v++) {
            due("S", x.rule(0, v), s);
            s = v;
        }
        int g = 10;
        for (int v = 1; v <= 10; v++) {
            due("G", x.rule(1, v), g);
            g = v;
        }
        due("S is another than G", x.rule(0, 0), 10);
        due("G is another than S", x.rule(1, 1), 10);
        due("S as it was", x.rule(0, 0), 0);
        due("G as it was", x.rule(1, 1), 1);
    }

    private static void ruleRefused() {
        sentence("Promise 7", "NUMBER: another what, or v isn't as told.");
        int[][] refused = {{0, -1}, {0, 11}, {1, 0}, {1, 11}, {1, -1}, {2, 5}, {-1, 5}, {LOW, 5}, {HIGH, 5}, {2, 0},
            {0, LOW}, {0, HIGH}, {1, LOW}, {1, HIGH}};
        for (int[] a : refused) {
            refuses(SentenceTest::busy, NUMBER, "rule" + at(a), x -> x.rule(a[0], a[1]));
        }
    }

    // ---- 8

    private static void slits() {
        sentence("Promise 8", "Of SLITS: what = 0 how many there are, 1 how many are SEWN, 2 PICKS of SEWN ones together,"
            + " 3 PICKS of the longest (0 without).");
        WeftShop x = sized(3, 10);
        slitsDue(x, 0, 0, 0, 0);
        // between warps 0 and 1: picks 0 to 3 and 5; between 1 and 2: picks 0 to 2 and 7 to 9
        x.paint(2, 0, 1, 4, 1);
        x.paint(2, 5, 1, 1, 2);
        x.paint(0, 0, 1, 3, 1);
        x.paint(0, 7, 1, 2, 3);
        x.paint(0, 9, 1, 1, 4);
        slitsDue(x, 4, 1, 4, 4);
        x.rule(0, 2);
        slitsDue(x, 4, 3, 10, 4);
        x.rule(0, 10);
        slitsDue(x, 4, 0, 0, 4);
        x.rule(0, 0);
        slitsDue(x, 4, 4, 11, 4);
        x.paint(2, 0, 1, 10, 5);
        slitsDue(x, 3, 3, 16, 10);
        x.size(1, 10);
        slitsDue(x, 0, 0, 0, 0);
        slitsDue(new WeftShop(), 0, 0, 0, 0);
        WeftShop most = sized(12, 10);
        for (int place = 0; place < 120; place++) {
            if ((place % 12 + place / 12) % 2 == 1 && place / 12 % 2 == 0) {
                most.paint(place % 12, place / 12, 1, 1, 1);
            }
        }
        // every other pick is of colour 0 alone
        slitsDue(most, 55, 0, 0, 1);
        most.rule(0, 0);
        slitsDue(most, 55, 55, 55, 1);
    }

    private static void slitsDue(WeftShop x, int... want) {
        for (int what = 0; what < 4; what++) {
            due("slits(" + what + ")", x.slits(what), want[what]);
        }
    }

    private static void slitsRefused() {
        sentence("Promise 8", "NUMBER: another what.");
        due("slits(4)", new WeftShop().slits(4), NUMBER);
        refuses(SentenceTest::busy, NUMBER, "slits(4)", x -> x.slits(4));
        for (int what : WRONG_WHATS) {
            refuses(SentenceTest::busy, NUMBER, "slits(" + what + ")", x -> x.slits(what));
        }
    }

    // ---- 9

    private static void slit() {
        sentence("Promise 9", "How many PICKS the SLIT between a WARP and the next one has, of which this PICK is; 0: there"
            + " is none.");
        WeftShop x = sized(3, 6);
        x.paint(0, 1, 1, 2, 1);
        x.paint(0, 4, 1, 2, 1);
        x.face(2, 3, true);
        int[] want = {0, 2, 2, 0, 2, 2};
        for (int pick = 0; pick < 6; pick++) {
            due("slit(1, " + pick + ")", x.slit(1, pick), want[pick]);
            due("slit(0, " + pick + ")", x.slit(0, pick), 0);
        }
        x.rule(0, 0);
        due("sewn or not", x.slit(1, 1), 2);
        x.paint(0, 0, 1, 1, 1);
        due("from the first pick on", x.slit(1, 2), 3);
        WeftShop wide = sized(12, 10);
        wide.paint(0, 0, 1, 10, 1);
        due("the last two warps", wide.slit(10, 9), 10);
        due("the first two", wide.slit(0, 0), 0);
    }

    private static void slitRefused() {
        sentence("Promise 9", "NUMBER: there is no such WARP, next one, or PICK.");
        int[][] refused = {{-1, 0}, {4, 0}, {3, 0}, {3, 2}, {0, -1}, {0, 3}, {-2, 0}, {LOW, 0}, {HIGH, 0}, {HIGH - 1, 0},
            {0, LOW}, {0, HIGH}, {11, 0}};
        for (int[] a : refused) {
            refuses(SentenceTest::busy, NUMBER, "slit" + at(a), x -> x.slit(a[0], a[1]));
        }
        due("one warp alone", new WeftShop().slit(0, 0), NUMBER);
        due("the last warp of 12", sized(12, 10).slit(11, 0), NUMBER);
        due("the last but one", sized(12, 10).slit(10, 9), 0);
        due("pick 10", sized(12, 10).slit(10, 10), NUMBER);
    }

    // ---- 10

    private static void field() {
        sentence("Promise 10", "The FIELD of a SQUARE.");
        WeftShop x = sized(3, 3);
        // on the loom: 0 0 1 / 2 1 1 / 0 0 0
        x.paint(0, 0, 1, 1, 1);
        x.paint(0, 1, 2, 1, 1);
        x.paint(2, 1, 1, 1, 2);
        int[][] want = {{0, 0, 1}, {2, 1, 1}, {3, 3, 3}};
        for (int pick = 0; pick < 3; pick++) {
            for (int warp = 0; warp < 3; warp++) {
                due("field(" + warp + ", " + pick + ")", x.field(warp, pick), want[pick][warp]);
            }
        }
        due("of a new object", new WeftShop().field(0, 0), 0);
        due("the last square", sized(12, 10).field(11, 9), 0);
    }

    private static void fieldRefused() {
        sentence("Promise 10", "NUMBER: there is none such.");
        for (int[] a : NO_SQUARES) {
            refuses(SentenceTest::busy, NUMBER, "field" + at(a), x -> x.field(a[0], a[1]));
        }
    }

    // ---- 11

    private static void of() {
        sentence("Promise 11", "Of a FIELD: what = 0 its COLOUR, 1 how many SQUARES, 2 YARN, 3 its least PLACE.");
        WeftShop x = sized(3, 3);
        x.paint(1, 1, 1, 1, 4);
        x.face(1, 1, true);
        int[][] want = {{0, 8, 20, 0}, {4, 1, 6, 4}};
        for (int field = 0; field < 2; field++) {
            for (int what = 0; what < 4; what++) {
                due("of(" + field + ", " + what + ")", x.of(field, what), want[field][what]);
            }
        }
        WeftShop whole = sized(12, 10);
        whole.paint(0, 0, 12, 10, 7);
        int[] all = {7, 120, 240, 0};
        for (int what = 0; what < 4; what++) {
            due("of the whole board " + what, whole.of(0, what), all[what]);
        }
        WeftShop rows = sized(12, 10);
        for (int row = 0; row < 10; row++) {
            rows.paint(0, row, 12, 1, row % 8);
        }
        due("of the last row, colour", rows.of(9, 0), 1);
        due("of the last row, squares", rows.of(9, 1), 12);
        due("of the last row, yarn", rows.of(9, 2), 36);
        due("of the last row, place", rows.of(9, 3), 108);
    }

    private static void ofRefused() {
        sentence("Promise 11", "NUMBER: there is none such, another what.");
        due("fields", busy().many(2), 3);
        int[][] refused = {{-1, 0}, {3, 0}, {3, 3}, {0, -1}, {0, 4}, {3, 4}, {LOW, 0}, {HIGH, 0}, {0, LOW}, {0, HIGH},
            {120, 0}, {119, 1}};
        for (int[] a : refused) {
            refuses(SentenceTest::busy, NUMBER, "of" + at(a), x -> x.of(a[0], a[1]));
        }
        due("the last field", busy().of(2, 0), 2);
        WeftShop most = checkered();
        due("the last field of 120", most.of(119, 3), 119);
        due("field 120", most.of(120, 3), NUMBER);
    }

    // ---- 12

    private static void dye() {
        sentence("Promise 12", "A LOT is dyed: its number.");
        WeftShop x = new WeftShop();
        for (int lot = 0; lot < 12; lot++) {
            due("lots", x.many(3), lot);
            due("dye", x.dye(lot % 8, lot == 0 ? 1 : 301 - lot), lot);
            due("its colour", x.lot(lot, 0), lot % 8);
            due("its yarn", x.lot(lot, 1), lot == 0 ? 1 : 301 - lot);
        }
        due("lots", x.many(3), 12);
    }

    private static void dyeRefused() {
        sentence("Promise 12", "NUMBER: there is no such COLOUR, or yarn isn't 1 to 300; FULL.");
        int[][] refused = {{-1, 5}, {8, 5}, {0, 0}, {0, 301}, {7, 301}, {0, -1}, {LOW, 5}, {HIGH, 5}, {0, LOW}, {0, HIGH}};
        for (int[] a : refused) {
            refuses(SentenceTest::busy, NUMBER, "dye" + at(a), x -> x.dye(a[0], a[1]));
            refuses(SentenceTest::crowded, NUMBER, "dye" + at(a) + ", though full", x -> x.dye(a[0], a[1]));
        }
        refuses(SentenceTest::crowded, FULL, "a 13th lot", x -> x.dye(0, 1));
        refuses(SentenceTest::crowded, FULL, "a 13th lot", x -> x.dye(7, 300));
    }

    // ---- 13

    private static void lot() {
        sentence("Promise 13", "Of a LOT: what = 0 its COLOUR, 1 YARN, 2 how much of that THE DEALING of its COLOUR deals.");
        WeftShop x = sized(4, 1);
        // yarn of colour 0: 3 at warp 0, 5 at warps 2 and 3; of colour 1: 4
        x.paint(2, 0, 1, 1, 1);
        x.dye(0, 7);
        x.dye(1, 300);
        x.dye(0, 3);
        x.dye(5, 9);
        int[][] want = {{0, 7, 5}, {1, 300, 4}, {0, 3, 3}, {5, 9, 0}};
        for (int lot = 0; lot < 4; lot++) {
            for (int what = 0; what < 3; what++) {
                due("lot(" + lot + ", " + what + ")", x.lot(lot, what), want[lot][what]);
            }
        }
        x.dye(0, 8);
        due("lots beyond what is needed: the first field is better off with lot 0", x.lot(0, 2), 3);
        due("the second with lot 4", x.lot(4, 2), 5);
        due("none with lot 2", x.lot(2, 2), 0);
        x.paint(0, 0, 4, 1, 6);
        due("no field of its colour any more", x.lot(0, 2), 0);
        WeftShop most = eightFieldsFourLots();
        for (int lot = 0; lot < 4; lot++) {
            due("lot(" + lot + ", 2) of 4 lots, 8 fields", most.lot(lot, 2), lot == 3 ? 6 : 5);
        }
    }

    /** Yarn 5, 5, 5, 5, 5, 4, 6, 5 in four lots of 6. */
    private static WeftShop eightFieldsFourLots() {
        WeftShop x = specks(8);
        for (int lot = 0; lot < 4; lot++) {
            x.dye(1, 6);
        }
        return x;
    }

    private static void lotRefused() {
        sentence("Promise 13", "NUMBER: there is none such, another what; BIG (2).");
        int[][] refused = {{-1, 0}, {3, 0}, {3, 2}, {0, 3}, {0, -1}, {11, 0}, {12, 0}, {LOW, 0}, {HIGH, 2}, {0, LOW}, {0, HIGH}};
        for (int[] a : refused) {
            refuses(SentenceTest::busy, NUMBER, "lot" + at(a), x -> x.lot(a[0], a[1]));
        }
        due("without lots", new WeftShop().lot(0, 0), NUMBER);
        due("lot 12 of 12", crowded().lot(12, 0), NUMBER);
        due("lot 11 of 12", crowded().lot(11, 1), 21);
        WeftShop lots = lotsOfOneColour(4);
        due("4 lots", lots.lot(0, 2), 3);
        refuses(() -> lotsOfOneColour(5), BIG, "5 lots", x -> x.lot(0, 2));
        refuses(() -> lotsOfOneColour(5), BIG, "the fifth", x -> x.lot(4, 2));
        lots.dye(1, 9);
        due("though not its colour", lots.lot(4, 0), 1);
        due("nor its yarn", lots.lot(4, 1), 9);
        due("another what ahead of BIG", lots.lot(4, 3), NUMBER);
        due("no such lot ahead of BIG", lots.lot(5, 2), NUMBER);
        WeftShop fields = specks(9);
        fields.dye(1, 9);
        fields.dye(0, 9);
        due("9 fields", fields.lot(0, 2), BIG);
        due("another colour's lot", fields.lot(1, 2), 0);
        WeftShop eight = specks(8);
        eight.dye(1, 5);
        due("8 fields", eight.lot(0, 2), 5);
    }

    /** One field of colour 1, of yarn 3. */
    private static WeftShop lotsOfOneColour(int lots) {
        WeftShop x = new WeftShop();
        x.size(2, 1);
        x.paint(0, 0, 1, 1, 1);
        for (int lot = 0; lot < lots; lot++) {
            x.dye(1, 9);
        }
        return x;
    }

    // ---- 14

    private static void deal() {
        sentence("Promise 14", "The LOT that THE DEALING of its COLOUR gives a FIELD.");
        WeftShop x = bars(1, 2, 3);
        x.dye(2, 300);
        x.dye(1, 9);
        x.dye(0, 300);
        x.dye(1, 10);
        dealDue(x, 3, 3, 1);
        due("a field of colour 0", x.deal(0), 2);
        due("another one", x.deal(6), 2);
        x.dye(1, 3);
        dealDue(x, 3, 3, 1);
        x.dye(1, 4);
        dealDue(x, 3, 3, 1);
        x.paint(0, 0, 12, 1, 1);
        due("as the cartoon is now: 24", x.deal(0), NONE);
        WeftShop last = sized(12, 10);
        for (int lot = 0; lot < 11; lot++) {
            last.dye(1 + lot % 7, 300);
        }
        last.dye(0, 240);
        due("the last lot", last.deal(0), 11);
    }

    private static void dealRefused() {
        sentence("Promise 14", "NUMBER: there is none such; BIG; NONE: it gives it none.");
        int[] refused = {-1, 3, 119, 120, LOW, HIGH};
        for (int field : refused) {
            refuses(SentenceTest::busy, NUMBER, "deal(" + field + ")", x -> x.deal(field));
        }
        refuses(() -> lotsOfOneColour(5), BIG, "5 lots", x -> x.deal(1));
        refuses(() -> lotsOfOneColour(5), NUMBER, "no such field ahead of BIG", x -> x.deal(2));
        refuses(() -> lotsOfOneColour(5), NONE, "another colour's field", x -> x.deal(0));
        due("4 lots", lotsOfOneColour(4).deal(1), 0);
        WeftShop nine = specks(9);
        due("9 fields", nine.deal(nine.field(11, 0)), BIG);
        due("another colour's field", nine.deal(nine.field(0, 1)), NONE);
        WeftShop eight = specks(8);
        due("8 fields, no lots", eight.deal(eight.field(11, 0)), NONE);
        eight.dye(1, 5);
        due("8 fields", eight.deal(eight.field(1, 0)), 0);
        due("8 fields", eight.deal(eight.field(3, 0)), NONE);
        refuses(WeftShop::new, NONE, "no lots", x -> x.deal(0));
        WeftShop little = bars(1);
        little.dye(1, 3);
        due("too little yarn", little.deal(1), NONE);
    }

    // ---- 15

    private static void dealt() {
        sentence("Promise 15", "Of THE DEALING of a COLOUR: what = 0 YARN that is dealt, 1 how many FIELDS have a LOT, 2 how"
            + " many have none.");
        WeftShop x = bars(1, 2, 3);
        dealtDue(x, 1, 0, 0, 3);
        x.dye(1, 13);
        dealtDue(x, 1, 12, 2, 1);
        x.dye(1, 3);
        dealtDue(x, 1, 12, 2, 1);
        x.dye(1, 6);
        dealtDue(x, 1, 18, 3, 0);
        x.dye(7, 13);
        dealtDue(x, 7, 0, 0, 0);
        dealtDue(x, 6, 0, 0, 0);
        dealtDue(x, 0, 0, 0, 4);
        x.dye(0, 300);
        dealtDue(x, 0, 18, 4, 0);
        WeftShop whole = sized(12, 10);
        whole.dye(0, 239);
        dealtDue(whole, 0, 0, 0, 1);
        whole.dye(0, 240);
        dealtDue(whole, 0, 240, 1, 0);
        dealtDue(eightFieldsFourLots(), 1, 21, 4, 4);
    }

    private static void dealtDue(WeftShop x, int colour, int... want) {
        for (int what = 0; what < 3; what++) {
            due("dealt(" + colour + ", " + what + ")", x.dealt(colour, what), want[what]);
        }
    }

    private static void dealtRefused() {
        sentence("Promise 15", "NUMBER: there is no such COLOUR, another what; BIG.");
        int[][] refused = {{-1, 0}, {8, 0}, {1, -1}, {1, 3}, {8, 3}, {LOW, 0}, {HIGH, 0}, {1, LOW}, {1, HIGH}};
        for (int[] a : refused) {
            refuses(SentenceTest::busy, NUMBER, "dealt" + at(a), x -> x.dealt(a[0], a[1]));
        }
        WeftShop nine = specks(9);
        for (int what = 0; what < 3; what++) {
            int asked = what;
            refuses(() -> lotsOfOneColour(5), BIG, "5 lots, " + what, x -> x.dealt(1, asked));
            due("4 lots, " + what, lotsOfOneColour(4).dealt(1, what), what == 0 ? 3 : what == 1 ? 1 : 0);
            due("9 fields, " + what, nine.dealt(1, what), BIG);
            due("8 fields, " + what, specks(8).dealt(1, what), what == 2 ? 8 : 0);
        }
        due("another what ahead of BIG", nine.dealt(1, 3), NUMBER);
        due("no such colour ahead of another what", nine.dealt(9, 9), NUMBER);
        due("another colour", nine.dealt(0, 2), 1);
    }

    // ---- 16

    private static void weaver() {
        sentence("Promise 16", "A WEAVER comes, a MASTER (true) or HAND: its number.");
        int[] speeds = {1, 20, 5, 9};
        WeftShop x = sized(1, 10);
        x.face(0, 0, true);
        for (int weaver = 0; weaver < 4; weaver++) {
            due("weavers", x.many(4), weaver);
            due("weaver", x.weaver(speeds[weaver], weaver > 1), weaver);
            due("who has a face", x.who(0), weaver < 2 ? NONE : weaver);
        }
        due("weavers", x.many(4), 4);
        for (int weaver = 0; weaver < 4; weaver++) {
            due("speed", x.speed(weaver, 1), speeds[weaver]);
        }
    }

    private static void weaverRefused() {
        sentence("Promise 16", "NUMBER: speed isn't 1 to 20; FULL.");
        int[] refused = {0, 21, -1, LOW, HIGH};
        for (int speed : refused) {
            refuses(SentenceTest::busy, NUMBER, "weaver(" + speed + ")", x -> x.weaver(speed, true));
            refuses(SentenceTest::busy, NUMBER, "weaver(" + speed + ")", x -> x.weaver(speed, false));
            refuses(SentenceTest::crowded, NUMBER, "weaver(" + speed + "), though full", x -> x.weaver(speed, true));
        }
        refuses(SentenceTest::crowded, FULL, "a fifth master", x -> x.weaver(1, true));
        refuses(SentenceTest::crowded, FULL, "a fifth hand", x -> x.weaver(20, false));
    }

    // ---- 17

    private static void speed() {
        sentence("Promise 17", "SPEED of a WEAVER is another one: what it was.");
        WeftShop x = sized(1, 10);
        x.weaver(2, false);
        due("was", x.speed(0, 20), 2);
        due("days now", x.share(0), 1);
        due("was", x.speed(0, 1), 20);
        due("days now", x.share(0), 10);
        due("the same one", x.speed(0, 1), 1);
        due("days now", x.share(0), 10);
        for (int weaver = 1; weaver < 4; weaver++) {
            x.weaver(1 + weaver, weaver == 3);
        }
        due("of the last one", x.speed(3, 15), 4);
        due("others stay", x.speed(2, 3), 3);
        due("others stay", x.speed(1, 2), 2);
        x.face(0, 0, true);
        due("a master is one still", x.who(0), 3);
        due("at that speed", x.share(0), 1);
    }

    private static void speedRefused() {
        sentence("Promise 17", "NUMBER: there is none such, or speed isn't 1 to 20.");
        int[][] refused = {{-1, 5}, {3, 5}, {4, 5}, {0, 0}, {0, 21}, {0, -1}, {LOW, 5}, {HIGH, 5}, {0, LOW}, {0, HIGH}, {3, 0}};
        for (int[] a : refused) {
            refuses(SentenceTest::busy, NUMBER, "speed" + at(a), x -> x.speed(a[0], a[1]));
        }
        due("without weavers", new WeftShop().speed(0, 5), NUMBER);
        due("weaver 4 of 4", crowded().speed(4, 5), NUMBER);
        due("weaver 3 of 4", crowded().speed(3, 5), 4);
    }

    // ---- 18

    private static void share() {
        sentence("Promise 18", "Of THE SHARING as all is now: what = 0 DAYS, 1 how many STRIPS.");
        WeftShop x = sized(3, 10);
        x.weaver(7, false);
        shareDue(x, 5, 1);
        x.weaver(20, false);
        shareDue(x, 2, 1);
        x.up();
        x.days(1);
        shareDue(x, 2, 1);
        x.speed(0, 10);
        shareDue(x, 1, 2);
        due("though it is down", x.many(5), 0);
        x.size(12, 10);
        shareDue(x, 4, 2);
        WeftShop wide = fourAlike(10);
        shareDue(wide, 3, 4);
        wide.face(0, 0, true);
        shareDue(wide, 4, 4);
        WeftShop hand = sized(2, 2);
        hand.weaver(1, false);
        shareDue(hand, 4, 1);
        hand.face(0, 0, true);
        shareDue(hand, NONE, NONE);
        hand.face(0, 0, false);
        shareDue(hand, 4, 1);
    }

    private static void shareDue(WeftShop x, int days, int strips) {
        due("share(0)", x.share(0), days);
        due("share(1)", x.share(1), strips);
    }

    private static void shareRefused() {
        sentence("Promise 18", "NUMBER: another what; NONE: there is no SHARING.");
        refuses(SentenceTest::busy, NUMBER, "share(2)", x -> x.share(2));
        refuses(WeftShop::new, NUMBER, "share(2) ahead of NONE", x -> x.share(2));
        for (int what : WRONG_WHATS) {
            refuses(SentenceTest::busy, NUMBER, "share(" + what + ")", x -> x.share(what));
        }
        for (int what = 0; what < 2; what++) {
            int asked = what;
            refuses(WeftShop::new, NONE, "no weavers", x -> x.share(asked));
            refuses(PromiseTest::faceWithoutMaster, NONE, "no master", x -> x.share(asked));
        }
        WeftShop two = sized(3, 1);
        two.weaver(20, true);
        two.weaver(1, false);
        due("a master alone may have all", two.share(1), 1);
    }

    private static WeftShop faceWithoutMaster() {
        WeftShop x = new WeftShop();
        x.size(3, 2);
        for (int weaver = 0; weaver < 4; weaver++) {
            x.weaver(5, false);
        }
        x.face(1, 1, true);
        return x;
    }

    // ---- 19

    private static void who() {
        sentence("Promise 19", "The WEAVER of a WARP by THE SHARING as all is now.");
        WeftShop x = sized(3, 1);
        x.weaver(1, false);
        x.weaver(2, false);
        whoDue(x, 0, 1, 1);
        x.up();
        x.speed(0, 2);
        x.speed(1, 1);
        whoDue(x, 0, 0, 1);
        x.size(2, 10);
        whoDue(x, 0, 0);
        x.face(0, 0, true);
        whoDue(x, NONE, NONE);
        WeftShop wide = sized(12, 1);
        for (int i = 0; i < 4; i++) {
            wide.weaver(3, false);
        }
        whoDue(wide, 0, 0, 0, 1, 1, 1, 2, 2, 2, 3, 3, 3);
    }

    private static void whoRefused() {
        sentence("Promise 19", "NUMBER: there is no such WARP; NONE.");
        int[] refused = {-1, 4, 12, LOW, HIGH};
        for (int warp : refused) {
            refuses(SentenceTest::busy, NUMBER, "who(" + warp + ")", x -> x.who(warp));
        }
        due("the last warp", busy().who(3), 1);
        refuses(WeftShop::new, NUMBER, "no such warp ahead of NONE", x -> x.who(1));
        refuses(WeftShop::new, NONE, "no weavers", x -> x.who(0));
        refuses(PromiseTest::faceWithoutMaster, NONE, "no master, for a warp without a face", x -> x.who(0));
    }

    // ---- 20

    private static void up() {
        sentence("Promise 20", "THE LOOM is SET UP by THE SHARING (anew, if it was): how many STRIPS.");
        WeftShop x = sized(3, 4);
        x.weaver(1, false);
        due("one strip", x.up(), 1);
        x.weaver(2, false);
        due("two strips", x.up(), 2);
        due("strips", x.many(5), 2);
        stripsDue(x, 0, 0, 1);
        stripsDue(x, 2, 1, 2);
        due("days", x.days(3), 3);
        stripsDue(x, 3, 3, 6);
        due("anew", x.up(), 2);
        stripsDue(x, 3, 0, 0);
        due("no days", x.many(7), 0);
        due("nothing woven", x.many(6), 0);
        WeftShop wide = fourAlike(10);
        due("four strips", wide.up(), 4);
        stripsDue(wide, 2, 3, 3, 3, 3);
    }

    private static void upRefused() {
        sentence("Promise 20", "NONE: there is no SHARING.");
        refuses(WeftShop::new, NONE, "no weavers", x -> x.up());
        refuses(PromiseTest::faceWithoutMaster, NONE, "no master", x -> x.up());
        WeftShop x = faceWithoutMaster();
        due("up", x.up(), NONE);
        due("down still", x.days(1), DOWN);
        due("taken off", x.face(1, 1, false), 1);
        due("up then", x.up(), 2);
        due("put on", x.face(1, 1, true), 1);
        due("up no more", x.up(), NONE);
        due("down", x.many(5), 0);
    }

    // ---- 21

    private static void days() {
        sentence("Promise 21", "n DAYS (1 to 100): how many WHOLE PICKS THE LOOM has then (the fewest of a STRIP).");
        WeftShop x = stripsOfOne(2, 3);
        due("a day", x.days(1), 2);
        stripsDue(x, 3, 2, 3);
        due("3 days", x.days(3), 8);
        stripsDue(x, 3, 8, 10);
        due("to the end", x.days(100), 10);
        stripsDue(x, 3, 10, 10);
        due("days that were idle count", x.many(7), 104);
        WeftShop last = stripsOfOne(3, 2);
        due("the last strip has the fewest", last.days(2), 4);
        WeftShop slow = sized(12, 10);
        slow.weaver(1, false);
        slow.up();
        due("no pick is whole", slow.days(11), 0);
        due("one is", slow.days(1), 1);
        due("100 days", slow.days(100), 9);
        due("days", slow.many(7), 112);
        WeftShop four = stripsOfOne(4, 3, 4, 4);
        due("the fewest of four", four.days(2), 6);
    }

    private static void daysRefused() {
        sentence("Promise 21", "NUMBER: n isn't as told; DOWN.");
        int[] refused = {0, -1, 101, LOW, HIGH};
        for (int n : refused) {
            refuses(SentenceTest::busy, NUMBER, "days(" + n + ")", x -> x.days(n));
            refuses(SentenceTest::idle, NUMBER, "days(" + n + ") ahead of DOWN", x -> x.days(n));
        }
        refuses(SentenceTest::idle, DOWN, "days(1)", x -> x.days(1));
        refuses(WeftShop::new, DOWN, "days(100)", x -> x.days(100));
    }

    // ---- 22

    private static void strip() {
        sentence("Promise 22", "Of a STRIP: what = 0 its WEAVER, 1 its first WARP, 2 how many WARPS, 3 DONE, 4 WORK, 5 WHOLE"
            + " PICKS, 6 whether it would be worked at on a DAY that begins now and has WORK left (1, 0).");
        WeftShop x = sized(6, 4);
        x.weaver(2, false);
        x.weaver(4, true);
        x.face(0, 0, true);
        x.up();
        int[][] first = {{0, 0, 2, 0, 8, 0, 1}, {1, 2, 4, 0, 18, 0, 1}};
        allStripsDue(x, first);
        x.days(2);
        int[][] then = {{0, 0, 2, 4, 8, 2, 1}, {1, 2, 4, 8, 18, 1, 1}};
        allStripsDue(x, then);
        x.rule(1, 1);
        due("one pick ahead", x.strip(0, 6), 0);
        due("one pick behind", x.strip(1, 6), 1);
        x.rule(1, 2);
        due("one pick ahead, of 2", x.strip(0, 6), 1);
        x.days(2);
        int[][] done = {{0, 0, 2, 8, 8, 4, 0}, {1, 2, 4, 16, 18, 3, 1}};
        allStripsDue(x, done);
        x.days(1);
        stripsDue(x, 6, 0, 0);
        stripsDue(x, 3, 8, 18);
        x.unweave(0, 0);
        stripsDue(x, 6, 1, 0);
        WeftShop three = stripsOfOne(3, 2, 3);
        three.rule(1, 2);
        three.days(2);
        stripsDue(three, 6, 0, 1, 0);
        three.days(1);
        stripsDue(three, 6, 1, 1, 1);
    }

    private static void allStripsDue(WeftShop x, int[][] want) {
        for (int what = 0; what < 7; what++) {
            for (int strip = 0; strip < want.length; strip++) {
                due("strip(" + strip + ", " + what + ")", x.strip(strip, what), want[strip][what]);
            }
        }
    }

    private static void stripRefused() {
        sentence("Promise 22", "DOWN; NUMBER: there is none such, another what.");
        int[][] refused = {{-1, 0}, {3, 0}, {4, 0}, {3, 7}, {0, -1}, {0, 7}, {2, 7}, {LOW, 0}, {HIGH, 0}, {0, LOW}, {0, HIGH}};
        for (int[] a : refused) {
            refuses(SentenceTest::busy, NUMBER, "strip" + at(a), x -> x.strip(a[0], a[1]));
            refuses(SentenceTest::idle, DOWN, "strip" + at(a) + ", down", x -> x.strip(a[0], a[1]));
        }
        for (int what = 0; what < 7; what++) {
            due("strip(0, " + what + "), down", idle().strip(0, what), DOWN);
        }
        due("the last strip", busy().strip(2, 1), 3);
        due("strip 4 of 4", crowded().strip(4, 0), NUMBER);
    }

    // ---- 23

    private static void woven() {
        sentence("Promise 23", "Whether a SQUARE is WOVEN: 1, 0.");
        WeftShop x = sized(3, 2);
        x.weaver(4, true);
        x.face(1, 0, true);
        x.up();
        // work 1, 3, 1 at pick 0, then 1, 1, 1
        wovenDue(x, new int[] {0, 0, 0}, new int[] {0, 0, 0});
        x.days(1);
        wovenDue(x, new int[] {1, 1, 0}, new int[] {0, 0, 0});
        x.days(1);
        wovenDue(x, new int[] {1, 1, 1}, new int[] {1, 1, 1});
        x.unweave(0, 1);
        wovenDue(x, new int[] {1, 1, 1}, new int[] {0, 0, 0});
        x.speed(0, 3);
        x.up();
        x.days(1);
        wovenDue(x, new int[] {1, 0, 0}, new int[] {0, 0, 0});
        WeftShop wide = sized(12, 10);
        wide.weaver(20, false);
        wide.up();
        wide.days(5);
        due("the last but", wide.woven(11, 8), 0);
        due("place 99", wide.woven(3, 8), 1);
        due("place 100", wide.woven(4, 8), 0);
        wide.days(1);
        due("the last square", wide.woven(11, 9), 1);
        WeftShop last = stripsOfOne(1, 1, 1, 1);
        last.days(1);
        last.unweave(3, 0);
        wovenDue(last, new int[] {1, 1, 1, 0}, new int[] {0, 0, 0, 0});
    }

    private static void wovenRefused() {
        sentence("Promise 23", "DOWN; NUMBER: there is none such.");
        for (int[] a : NO_SQUARES) {
            refuses(SentenceTest::busy, NUMBER, "woven" + at(a), x -> x.woven(a[0], a[1]));
            refuses(SentenceTest::idle, DOWN, "woven" + at(a) + ", down", x -> x.woven(a[0], a[1]));
        }
        refuses(SentenceTest::idle, DOWN, "woven(0, 0), down", x -> x.woven(0, 0));
        refuses(WeftShop::new, DOWN, "woven(0, 0), never up", x -> x.woven(0, 0));
    }

    // ---- 24

    private static void unweave() {
        sentence("Promise 24", "A STRIP is unwoven from a PICK on: DONE becomes WORK of its SQUARES of lesser PICKS, if it is"
            + " above that: how much less it is.");
        WeftShop x = sized(2, 5);
        x.weaver(3, true);
        x.face(0, 1, true);
        x.up();
        due("nothing is done", x.unweave(0, 0), 0);
        due("nothing is done", x.unweave(0, 4), 0);
        x.days(3);
        // work of picks: 2, 4, 2, 2, 2, and 9 is done
        due("not above 10", x.unweave(0, 4), 0);
        due("not above 10", x.strip(0, 3), 9);
        due("above 8", x.unweave(0, 3), 1);
        due("done", x.strip(0, 3), 8);
        due("just 8", x.unweave(0, 3), 0);
        due("above 6", x.unweave(0, 2), 2);
        due("above 2", x.unweave(0, 1), 4);
        due("above 0", x.unweave(0, 0), 2);
        due("done", x.strip(0, 3), 0);
        due("days stay", x.many(7), 3);
        x.days(100);
        due("all of it", x.unweave(0, 0), 12);
        due("it is woven anew", x.days(1), 1);
        due("at its speed", x.strip(0, 3), 3);
        WeftShop four = stripsOfOne(5, 5, 5, 5);
        four.days(2);
        for (int strip = 3; strip >= 0; strip--) {
            for (int pick = 9; pick >= 0; pick--) {
                due("woven still", four.woven(strip, pick), 1);
                due("a pick less", four.unweave(strip, pick), 1);
                due("woven no more", four.woven(strip, pick), 0);
                due("others stay", four.strip(strip == 0 ? 3 : strip - 1, 3), strip == 0 ? 0 : 10);
            }
        }
    }

    private static void unweaveRefused() {
        sentence("Promise 24", "DOWN; NUMBER: there is no such STRIP, PICK.");
        int[][] refused = {{-1, 0}, {3, 0}, {4, 0}, {0, -1}, {0, 3}, {3, 3}, {0, 10}, {LOW, 0}, {HIGH, 0}, {0, LOW}, {0, HIGH}};
        for (int[] a : refused) {
            refuses(SentenceTest::busy, NUMBER, "unweave" + at(a), x -> x.unweave(a[0], a[1]));
            refuses(SentenceTest::idle, DOWN, "unweave" + at(a) + ", down", x -> x.unweave(a[0], a[1]));
        }
        refuses(SentenceTest::idle, DOWN, "unweave(0, 0), down", x -> x.unweave(0, 0));
        due("the last strip, the last pick", stripsOfOne(1, 1, 1, 1).unweave(3, 9), 0);
        due("pick 10", stripsOfOne(1, 1, 1, 1).unweave(3, 10), NUMBER);
    }

    // ---- 25

    private static void many() {
        sentence("Promise 25", "How many: what = 0 COLUMNS, 1 ROWS, 2 FIELDS, 3 LOTS, 4 WEAVERS, 5 STRIPS (0: DOWN), 6 SQUARES"
            + " that are WOVEN (0: DOWN), 7 DAYS since THE LOOM was SET UP (0: DOWN), 8 FACES.");
        WeftShop x = sized(3, 4);
        x.paint(0, 0, 1, 1, 1);
        x.dye(0, 1);
        x.dye(0, 1);
        x.weaver(1, true);
        x.weaver(1, true);
        x.weaver(1, false);
        x.face(2, 3, true);
        manyDue(x, 3, 4, 2, 2, 3, 0, 0, 0, 1);
        x.up();
        manyDue(x, 3, 4, 2, 2, 3, 3, 0, 0, 1);
        x.days(2);
        manyDue(x, 3, 4, 2, 2, 3, 3, 6, 2, 1);
        x.days(100);
        manyDue(x, 3, 4, 2, 2, 3, 3, 12, 102, 1);
        x.speed(0, 1);
        manyDue(x, 3, 4, 2, 2, 3, 0, 0, 0, 1);
        x.up();
        x.days(100);
        x.unweave(0, 0);
        manyDue(x, 3, 4, 2, 2, 3, 3, 8, 100, 1);
        // one strip, where there were three
        x.speed(2, 20);
        x.face(2, 3, false);
        x.up();
        x.days(100);
        manyDue(x, 3, 4, 2, 2, 3, 1, 12, 100, 0);
        x.size(12, 10);
        manyDue(x, 12, 10, 1, 2, 3, 0, 0, 0, 0);
        WeftShop faces = sized(12, 10);
        faceAll(faces);
        manyDue(faces, 12, 10, 1, 0, 0, 0, 0, 0, 120);
        faces.weaver(20, true);
        faces.up();
        faces.days(18);
        manyDue(faces, 12, 10, 1, 0, 1, 1, 120, 18, 120);
        WeftShop four = fourAlike(10);
        four.up();
        four.days(2);
        manyDue(four, 12, 10, 1, 0, 4, 4, 80, 2, 0);
    }

    private static void manyDue(WeftShop x, int... want) {
        for (int what = 0; what < want.length; what++) {
            due("many(" + what + ")", x.many(what), want[what]);
        }
    }

    private static void manyRefused() {
        sentence("Promise 25", "NUMBER: another what.");
        refuses(SentenceTest::busy, NUMBER, "many(9)", x -> x.many(9));
        refuses(WeftShop::new, NUMBER, "many(9)", x -> x.many(9));
        for (int what : WRONG_WHATS) {
            refuses(SentenceTest::busy, NUMBER, "many(" + what + ")", x -> x.many(what));
        }
    }

    // ---- 26

    /** Three STRIPS at work, the face among those of weaver 0. */
    private static WeftShop atWork() {
        WeftShop x = sized(7, 3);
        x.paint(2, 1, 3, 2, 4);
        x.weaver(2, false);
        x.weaver(3, true);
        x.weaver(2, true);
        x.face(6, 1, true);
        x.dye(4, 20);
        x.dye(0, 40);
        due("up", x.up(), 3);
        x.days(2);
        return x;
    }

    private static int[] told(WeftShop x) {
        int[] out = new int[21 + 42 + 9 + 6];
        int at = 0;
        for (int i = 0; i < 21; i++) {
            out[at++] = x.strip(i / 7, i % 7);
            out[at++] = x.woven(i % 7, i / 7);
            out[at++] = x.cartoon(i % 7, i / 7);
        }
        for (int what = 0; what < 9; what++) {
            out[at++] = x.many(what);
        }
        for (int i = 0; i < 6; i++) {
            out[at++] = x.lot(i / 3, i % 3);
        }
        return out;
    }

    private static void sameDue(WeftShop x, int[] want) {
        int[] got = told(x);
        for (int i = 0; i < want.length; i++) {
            due("what is told, " + i, got[i], want[i]);
        }
    }

    private static void changeAll(WeftShop x) {
        x.size(12, 10);
        x.paint(0, 0, 12, 10, 2);
        x.dye(2, 300);
        x.weaver(19, false);
        for (int weaver = 0; weaver < 3; weaver++) {
            x.speed(weaver, 20);
        }
        x.face(0, 0, true);
        x.up();
        x.days(3);
    }

    private static void keep() {
        sentence("Promise 26", "THE CARTOON, LOTS, WEAVERS, THE LOOM (STRIPS, DONE, DAYS) are kept: 1.");
        WeftShop x = atWork();
        int[] want = told(x);
        due("keep", x.keep(), 1);
        sameDue(x, want);
        changeAll(x);
        x.back();
        sameDue(x, want);
        due("no strip beyond", x.strip(3, 0), NUMBER);
        due("no lot beyond", x.lot(2, 0), NUMBER);
        due("days go on", x.days(1), 2);
        stripsDue(x, 3, 9, 6, 6);
        due("days go on", x.many(7), 3);
        due("speeds", x.speed(0, 5), 2);
        due("speeds", x.speed(1, 5), 3);
        due("speeds", x.speed(2, 5), 2);
        due("no weaver beyond", x.speed(3, 5), NUMBER);
        WeftShop masters = new WeftShop();
        masters.face(0, 0, true);
        masters.keep();
        masters.weaver(1, true);
        masters.back();
        masters.weaver(1, false);
        due("a hand comes where a master was", masters.share(0), NONE);
        masters.keep();
        masters.weaver(1, true);
        masters.back();
        due("the hand as kept", masters.share(0), NONE);
        WeftShop rules = new WeftShop();
        rules.keep();
        rules.rule(0, 7);
        rules.rule(1, 4);
        rules.back();
        due("S isn't among what is kept", rules.rule(0, 1), 7);
        due("G isn't among what is kept", rules.rule(1, 1), 4);
        WeftShop down = idle();
        due("keep, down", down.keep(), 1);
        down.up();
        down.back();
        due("down as kept", down.strip(0, 0), DOWN);
        due("a new object", new WeftShop().keep(), 1);
        due("full", crowded().keep(), 1);
    }

    // ---- 27

    private static void back() {
        sentence("Promise 27", "They become what was kept latest (which stays): 1.");
        WeftShop x = atWork();
        int[] want = told(x);
        x.keep();
        for (int turn = 0; turn < 2; turn++) {
            changeAll(x);
            due("back", x.back(), 1);
            sameDue(x, want);
            x.days(1);
            x.unweave(0, 0);
            x.paint(0, 0, 1, 1, 3);
            x.dye(2, 2);
        }
        x.size(1, 1);
        due("keep anew", x.keep(), 1);
        x.size(2, 2);
        due("back", x.back(), 1);
        due("the latest", x.many(0), 1);
        due("down as kept", x.many(5), 0);
        x.up();
        due("back", x.back(), 1);
        due("down as kept", x.days(1), DOWN);
        due("back twice", x.back(), 1);
        due("the latest still", x.many(1), 1);
        WeftShop full = crowded();
        full.keep();
        full.size(1, 1);
        full.back();
        due("full again", full.dye(0, 1), FULL);
        due("full again", full.weaver(1, true), FULL);
        due("up again", full.many(7), 1);
        WeftShop empty = new WeftShop();
        empty.keep();
        empty.dye(1, 1);
        empty.weaver(1, true);
        empty.up();
        due("back", empty.back(), 1);
        manyDue(empty, 1, 1, 1, 0, 0, 0, 0, 0, 0);
        due("numbers go on from what was kept", empty.dye(2, 2), 0);
        due("numbers go on from what was kept", empty.weaver(2, true), 0);
    }

    private static void backRefused() {
        sentence("Promise 27", "NONE: nothing is kept.");
        refuses(WeftShop::new, NONE, "back of a new object", x -> x.back());
        refuses(SentenceTest::crowded, NONE, "back while up", x -> x.back());
        WeftShop x = crowded();
        due("back", x.back(), NONE);
        due("back again", x.back(), NONE);
        due("keep", x.keep(), 1);
        due("back then", x.back(), 1);
    }
}
