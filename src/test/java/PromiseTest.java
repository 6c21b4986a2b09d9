/** Each promise of the document by hand: ordinary inputs, the edges that it names, wrong inputs. */
public final class PromiseTest {
    private static final int NUMBER = -1;
    private static final int FULL = -2;
    private static final int DOWN = -3;
    private static final int NONE = -4;
    private static final int BIG = -5;
    private static final int LOW = Integer.MIN_VALUE;
    private static final int HIGH = Integer.MAX_VALUE;

    private static int wrong = 0;
    private static int asked = 0;

    private static void due(String call, int got, int want) {
        asked++;
        if (got != want) {
            wrong++;
            System.out.println(call + " answered " + got + ", due is " + want);
        }
    }

    public static void main(String[] args) {
        newObject();
        size();
        paint();
        face();
        cartoonAndLoom();
        rule();
        slits();
        slit();
        field();
        of();
        dye();
        lot();
        deal();
        dealTies();
        dealFarTies();
        dealt();
        big();
        weaver();
        speed();
        share();
        shareTies();
        shareFaces();
        who();
        up();
        days();
        steps();
        strip();
        woven();
        unweave();
        unweaveFourStrips();
        many();
        takenDown();
        keepAndBack();
        backWithStrips();
        refusedChangesNothing();
        System.out.println("PromiseTest: " + asked + " answers, " + wrong + " not as due");
        if (wrong != 0) {
            System.exit(1);
        }
    }

    private static WeftShop sized(int columns, int rows) {
        WeftShop x = new WeftShop();
        due("size", x.size(columns, rows), columns * rows);
        return x;
    }

    // ---- promise 1

    private static void newObject() {
        WeftShop x = new WeftShop();
        int[] want = {1, 1, 1, 0, 0, 0, 0, 0, 0};
        for (int what = 0; what < want.length; what++) {
            due("1: many(" + what + ")", x.many(what), want[what]);
        }
        due("1: cartoon", x.cartoon(0, 0), 0);
        due("1: back", x.back(), NONE);
        due("1: days", x.days(1), DOWN);
        due("1: up", x.up(), NONE);
        due("1: S", x.rule(0, 3), 3);
        due("1: G", x.rule(1, 10), 10);
    }

    // ---- promise 2

    private static void size() {
        WeftShop x = new WeftShop();
        int[][] refused = {{0, 1}, {13, 1}, {1, 0}, {1, 11}, {-1, 5}, {5, -1}, {LOW, LOW}, {HIGH, HIGH}};
        for (int[] bad : refused) {
            due("2: size refused", x.size(bad[0], bad[1]), NUMBER);
        }
        due("2: columns as before", x.many(0), 1);
        due("2: size(12, 10)", x.size(12, 10), 120);
        due("2: paint", x.paint(0, 0, 12, 10, 5), 120);
        due("2: face", x.face(11, 9, true), 1);
        due("2: size again", x.size(12, 10), 120);
        for (int c = 0; c < 12; c++) {
            for (int r = 0; r < 10; r++) {
                due("2: all of colour 0, no faces", x.cartoon(c, r), 0);
            }
        }
        due("2: size(1, 1)", x.size(1, 1), 1);
        due("2: columns", x.many(0), 1);
        due("2: rows", x.many(1), 1);
        x.dye(1, 5);
        x.weaver(3, false);
        x.size(3, 7);
        due("2: columns", x.many(0), 3);
        due("2: rows", x.many(1), 7);
        due("2: lots stay", x.many(3), 1);
        due("2: weavers stay", x.many(4), 1);
    }

    // ---- promise 3

    private static void paint() {
        WeftShop x = sized(5, 4);
        int[][] refused = {
            {0, 0, 0, 1, 1}, {0, 0, 1, 0, 1}, {0, 0, -1, 1, 1}, {0, 0, 1, -1, 1},
            {-1, 0, 1, 1, 1}, {0, -1, 1, 1, 1}, {5, 0, 1, 1, 1}, {0, 4, 1, 1, 1},
            {0, 0, 6, 1, 1}, {0, 0, 1, 5, 1}, {3, 0, 3, 1, 1}, {0, 3, 1, 2, 1},
            {0, 0, 1, 1, 8}, {0, 0, 1, 1, -1}, {1, 1, HIGH, 1, 1}, {1, 1, 1, HIGH, 1},
            {HIGH, 0, HIGH, 1, 1}, {LOW, 0, HIGH, 1, 1}, {0, LOW, 1, LOW, 1}, {0, 0, 1, 1, HIGH}};
        for (int[] bad : refused) {
            due("3: paint refused", x.paint(bad[0], bad[1], bad[2], bad[3], bad[4]), NUMBER);
        }
        for (int c = 0; c < 5; c++) {
            for (int r = 0; r < 4; r++) {
                due("3: nothing painted", x.cartoon(c, r), 0);
            }
        }
        due("3: face", x.face(2, 2, true), 1);
        due("3: paint", x.paint(1, 2, 3, 2, 7), 6);
        for (int c = 0; c < 5; c++) {
            for (int r = 0; r < 4; r++) {
                int want = c >= 1 && c < 4 && r >= 2 ? 7 : 0;
                due("3: painted, the face stays", x.cartoon(c, r), want + (c == 2 && r == 2 ? 8 : 0));
            }
        }
        due("3: the same colour counts", x.paint(1, 2, 3, 2, 7), 6);
        due("3: colour 0", x.paint(0, 0, 5, 4, 0), 20);
        due("3: painted over", x.cartoon(1, 2), 0);
    }

    // ---- promise 4

    private static void face() {
        WeftShop x = sized(3, 2);
        due("4: none is not new", x.face(0, 0, false), 0);
        due("4: new", x.face(0, 0, true), 1);
        due("4: not new", x.face(0, 0, true), 0);
        due("4: another", x.face(2, 1, true), 1);
        due("4: faces", x.many(8), 2);
        due("4: taken off", x.face(0, 0, false), 1);
        due("4: faces", x.many(8), 1);
        int[][] refused = {{-1, 0}, {3, 0}, {0, -1}, {0, 2}, {LOW, 0}, {0, HIGH}};
        for (int[] bad : refused) {
            due("4: face refused", x.face(bad[0], bad[1], true), NUMBER);
        }
        due("4: faces", x.many(8), 1);
    }

    // ---- promises 5 and 6

    private static void cartoonAndLoom() {
        WeftShop x = sized(4, 3);
        x.paint(0, 1, 1, 1, 6);
        x.face(0, 1, true);
        x.face(3, 2, true);
        due("5: colour with a face", x.cartoon(0, 1), 14);
        due("5: face alone", x.cartoon(3, 2), 8);
        due("5: neither", x.cartoon(3, 1), 0);
        due("6: mirrored", x.loom(3, 1), 14);
        due("6: mirrored", x.loom(0, 2), 8);
        due("6: neither", x.loom(0, 1), 0);
        int[][] refused = {{-1, 0}, {4, 0}, {0, -1}, {0, 3}, {LOW, LOW}, {HIGH, HIGH}};
        for (int[] bad : refused) {
            due("5: cartoon refused", x.cartoon(bad[0], bad[1]), NUMBER);
            due("6: loom refused", x.loom(bad[0], bad[1]), NUMBER);
        }
    }

    // ---- promise 7

    private static void rule() {
        WeftShop x = new WeftShop();
        due("7: S was 3", x.rule(0, 0), 3);
        due("7: S was 0", x.rule(0, 10), 0);
        due("7: G was 10", x.rule(1, 1), 10);
        due("7: G was 1", x.rule(1, 9), 1);
        int[][] refused = {{0, -1}, {0, 11}, {1, 0}, {1, 11}, {2, 5}, {-1, 5}, {0, LOW}, {1, HIGH}, {HIGH, 5}};
        for (int[] bad : refused) {
            due("7: rule refused", x.rule(bad[0], bad[1]), NUMBER);
        }
        due("7: S was 10", x.rule(0, 3), 10);
        due("7: G was 9", x.rule(1, 10), 9);
    }

    // ---- promise 8

    private static void slits() {
        WeftShop x = sized(3, 10);
        for (int what = 0; what < 4; what++) {
            due("8: without slits", x.slits(what), 0);
        }
        // between warps 0 and 1: picks 0 to 3 and 5; between 1 and 2: picks 0 to 2 and 7 to 9
        x.paint(2, 0, 1, 4, 1);
        x.paint(2, 5, 1, 1, 2);
        x.paint(0, 0, 1, 3, 1);
        x.paint(0, 7, 1, 2, 3);
        x.paint(0, 9, 1, 1, 4);
        due("8: slits", x.slits(0), 4);
        due("8: longer than 3", x.slits(1), 1);
        due("8: picks of them", x.slits(2), 4);
        due("8: the longest", x.slits(3), 4);
        x.rule(0, 2);
        due("8: longer than 2", x.slits(1), 3);
        due("8: picks of them", x.slits(2), 10);
        x.rule(0, 10);
        due("8: none is sewn", x.slits(1), 0);
        due("8: no picks", x.slits(2), 0);
        due("8: the longest is told though open", x.slits(3), 4);
        x.rule(0, 0);
        due("8: all are sewn", x.slits(1), 4);
        due("8: all picks", x.slits(2), 11);
        int[] refused = {-1, 4, LOW, HIGH};
        for (int bad : refused) {
            due("8: slits refused", x.slits(bad), NUMBER);
        }
        x.paint(2, 0, 1, 10, 5);
        due("8: the whole height", x.slits(3), 10);
        x.size(1, 10);
        due("8: one warp has none", x.slits(0), 0);
    }

    // ---- promise 9

    private static void slit() {
        WeftShop x = sized(3, 6);
        x.paint(0, 1, 1, 2, 1);
        x.paint(0, 4, 1, 2, 1);
        x.face(2, 3, true);
        int[] want = {0, 2, 2, 0, 2, 2};
        for (int pick = 0; pick < 6; pick++) {
            due("9: slit(1, " + pick + ")", x.slit(1, pick), want[pick]);
            due("9: a face alone makes none", x.slit(0, pick), 0);
            due("9: no next warp", x.slit(2, pick), NUMBER);
        }
        int[][] refused = {{-1, 0}, {3, 0}, {0, -1}, {0, 6}, {LOW, 0}, {HIGH, 0}, {0, HIGH}};
        for (int[] bad : refused) {
            due("9: slit refused", x.slit(bad[0], bad[1]), NUMBER);
        }
        due("9: one warp alone", new WeftShop().slit(0, 0), NUMBER);
    }

    // ---- promise 10

    private static void field() {
        WeftShop x = sized(3, 3);
        // on the loom: 0 0 1 / 2 1 1 (another field of colour 0 across corners) / 0 0 0 below
        x.paint(0, 0, 1, 1, 1);
        x.paint(0, 1, 2, 1, 1);
        x.paint(2, 1, 1, 1, 2);
        int[][] want = {{0, 0, 1}, {2, 1, 1}, {3, 3, 3}};
        for (int pick = 0; pick < 3; pick++) {
            for (int warp = 0; warp < 3; warp++) {
                due("10: field(" + warp + ", " + pick + ")", x.field(warp, pick), want[pick][warp]);
            }
        }
        int[][] refused = {{-1, 0}, {3, 0}, {0, -1}, {0, 3}, {LOW, HIGH}};
        for (int[] bad : refused) {
            due("10: field refused", x.field(bad[0], bad[1]), NUMBER);
        }
        WeftShop corner = sized(2, 2);
        corner.paint(0, 0, 1, 1, 1);
        corner.paint(1, 1, 1, 1, 1);
        due("10: corners don't hang together", corner.many(2), 4);
        corner.face(0, 1, true);
        corner.paint(0, 0, 2, 2, 1);
        due("10: a face parts nothing", corner.many(2), 1);
    }

    // ---- promise 11

    private static void of() {
        WeftShop x = sized(3, 3);
        x.paint(1, 1, 1, 1, 4);
        due("11: colour of the ring", x.of(0, 0), 0);
        due("11: squares of the ring", x.of(0, 1), 8);
        due("11: yarn of the ring", x.of(0, 2), 20);
        due("11: place of the ring", x.of(0, 3), 0);
        due("11: colour of the middle", x.of(1, 0), 4);
        due("11: squares of the middle", x.of(1, 1), 1);
        due("11: yarn of the middle", x.of(1, 2), 6);
        due("11: place of the middle", x.of(1, 3), 4);
        int[][] refused = {{-1, 0}, {2, 0}, {0, -1}, {0, 4}, {LOW, 0}, {HIGH, 0}, {0, HIGH}};
        for (int[] bad : refused) {
            due("11: of refused", x.of(bad[0], bad[1]), NUMBER);
        }
        WeftShop whole = sized(12, 10);
        due("11: no sides at the edge", whole.of(0, 2), 240);
        for (int c = 0; c < 12; c++) {
            for (int r = 0; r < 10; r++) {
                if ((c + r) % 2 == 1) {
                    whole.paint(c, r, 1, 1, 1);
                }
            }
        }
        due("11: the most fields", whole.many(2), 120);
        due("11: the last one's place", whole.of(119, 3), 119);
        due("11: the last one's yarn", whole.of(119, 2), 4);
        due("11: no field beyond", whole.of(120, 0), NUMBER);
    }

    // ---- promise 12

    private static void dye() {
        WeftShop x = new WeftShop();
        int[][] refused = {{-1, 5}, {8, 5}, {0, 0}, {0, 301}, {LOW, 5}, {0, HIGH}};
        for (int[] bad : refused) {
            due("12: dye refused", x.dye(bad[0], bad[1]), NUMBER);
        }
        for (int lot = 0; lot < 12; lot++) {
            due("12: lot", x.dye(lot % 8, lot == 0 ? 1 : 300), lot);
        }
        due("12: full", x.dye(0, 5), FULL);
        due("12: a wrong number ahead of full", x.dye(8, 5), NUMBER);
        due("12: a wrong yarn ahead of full", x.dye(0, 301), NUMBER);
        due("12: lots", x.many(3), 12);
        due("12: nothing changed", x.lot(0, 1), 1);
    }

    // ---- promise 13

    private static void lot() {
        WeftShop x = sized(4, 1);
        // yarn of the fields of colour 0: 2 + 1 at warp 0, 4 + 1 at warps 2 and 3
        x.paint(2, 0, 1, 1, 1);
        x.dye(0, 7);
        x.dye(1, 300);
        x.dye(0, 3);
        x.dye(5, 9);
        due("13: colour", x.lot(1, 0), 1);
        due("13: yarn", x.lot(0, 1), 7);
        due("13: dealt of lot 0", x.lot(0, 2), 5);
        due("13: dealt of lot 1", x.lot(1, 2), 4);
        due("13: dealt of lot 2", x.lot(2, 2), 3);
        due("13: no field of the colour", x.lot(3, 2), 0);
        int[][] refused = {{-1, 0}, {4, 0}, {0, 3}, {0, -1}, {LOW, 0}, {HIGH, 2}, {0, HIGH}};
        for (int[] bad : refused) {
            due("13: lot refused", x.lot(bad[0], bad[1]), NUMBER);
        }
    }

    // ---- promise 14

    /** Fields of colour 1 in one row, warp 0 on, with yarn 2 for each square and 1 for each of 2 sides. */
    private static WeftShop bars(int... lengths) {
        WeftShop x = sized(12, 1);
        int warp = 1;
        for (int length : lengths) {
            x.paint(12 - warp - length, 0, length, 1, 1);
            warp += length + 1;
        }
        return x;
    }

    private static void deal() {
        // fields 1, 3, 5 of colour 1, with yarn 4, 6, 8
        WeftShop x = bars(1, 2, 3);
        due("14: no lots", x.deal(1), NONE);
        x.dye(1, 9);
        due("14: the most yarn", x.deal(1), NONE);
        due("14: the most yarn", x.deal(3), NONE);
        due("14: the most yarn", x.deal(5), 0);
        x.dye(2, 300);
        due("14: another colour's lot", x.deal(1), NONE);
        x.dye(1, 10);
        due("14: two into the larger", x.deal(1), 2);
        due("14: two into the larger", x.deal(3), 2);
        due("14: one into the lesser", x.deal(5), 0);
        due("14: colour 0 has no lot", x.deal(0), NONE);
        int[] refused = {-1, 7, LOW, HIGH};
        for (int bad : refused) {
            due("14: deal refused", x.deal(bad), NUMBER);
        }
        WeftShop brim = bars(1);
        brim.dye(1, 3);
        due("14: too little yarn", brim.deal(1), NONE);
        brim.dye(1, 4);
        due("14: just enough", brim.deal(1), 1);
    }

    private static void dealTies() {
        WeftShop x = bars(1, 1, 1);
        x.dye(1, 4);
        x.dye(1, 4);
        due("14: the first field gets the lesser lot", x.deal(1), 0);
        due("14: the second gets the next", x.deal(3), 1);
        due("14: none is left", x.deal(5), NONE);
        x.dye(1, 4);
        due("14: then the third", x.deal(5), 2);
        WeftShop one = bars(1, 1, 1);
        one.dye(1, 5);
        one.dye(1, 8);
        due("14: lot 0 first", one.deal(1), 0);
        due("14: lot 1 then", one.deal(3), 1);
        due("14: and again", one.deal(5), 1);
        // yarn 4, 6, 8: 10 can be dealt as 4 and 6 alone, 8 in one way
        WeftShop two = bars(1, 2, 3);
        two.dye(1, 8);
        two.dye(1, 4);
        due("14: a later lot for the sake of more", two.deal(1), 1);
        due("14: the second gets none", two.deal(3), NONE);
        due("14: the third gets lot 0", two.deal(5), 0);
        // yarn 6, 4, 4, 6 in a lot of 10: first with second, not second or third with fourth
        WeftShop three = bars(2, 1, 1, 2);
        three.dye(1, 10);
        due("14: tie goes to the first field", three.deal(1), 0);
        due("14: tie goes to the second field", three.deal(3), 0);
        due("14: not the third", three.deal(5), NONE);
        due("14: not the fourth", three.deal(7), NONE);
    }

    private static void bar(WeftShop x, int warp, int pick, int length) {
        due("a bar", x.paint(12 - warp - length, pick, length, 1, 1), length);
    }

    /** Lot 1 for the first field would give the second lot 0; but the first field comes first. */
    private static void dealFarTies() {
        WeftShop x = sized(12, 10);
        // yarn 6, 22, 14, 18, 18; of 46 in two lots 42 can be dealt at the most
        bar(x, 1, 1, 1);
        bar(x, 3, 1, 5);
        bar(x, 1, 3, 3);
        bar(x, 5, 3, 4);
        bar(x, 1, 5, 4);
        int[] yarns = {6, 22, 14, 18, 18};
        for (int field = 1; field <= 5; field++) {
            due("11: yarn of a bar", x.of(field, 2), yarns[field - 1]);
        }
        x.dye(1, 25);
        x.dye(1, 21);
        int[] want = {0, NONE, NONE, 0, 1};
        for (int field = 1; field <= 5; field++) {
            due("14: deal(" + field + ")", x.deal(field), want[field - 1]);
        }
        due("15: dealt", x.dealt(1, 0), 42);
        due("13: dealt of lot 0", x.lot(0, 2), 24);
        due("13: dealt of lot 1", x.lot(1, 2), 18);
    }

    // ---- promise 15

    private static void dealt() {
        WeftShop x = bars(1, 2, 3);
        due("15: yarn without lots", x.dealt(1, 0), 0);
        due("15: with a lot", x.dealt(1, 1), 0);
        due("15: without", x.dealt(1, 2), 3);
        x.dye(1, 13);
        due("15: yarn", x.dealt(1, 0), 12);
        due("15: with a lot", x.dealt(1, 1), 2);
        due("15: without", x.dealt(1, 2), 1);
        x.dye(7, 13);
        for (int what = 0; what < 3; what++) {
            due("15: no fields of the colour", x.dealt(7, what), 0);
        }
        int[][] refused = {{-1, 0}, {8, 0}, {1, -1}, {1, 3}, {LOW, 0}, {1, HIGH}};
        for (int[] bad : refused) {
            due("15: dealt refused", x.dealt(bad[0], bad[1]), NUMBER);
        }
    }

    /** Colour 0 has the squares of a row that colour 1 leaves. */
    private static WeftShop specks(int specks) {
        WeftShop x = sized(12, 5);
        for (int i = 0; i < specks; i++) {
            x.paint(i % 6 * 2, i / 6 * 2, 1, 1, 1);
        }
        return x;
    }

    private static void big() {
        WeftShop eight = specks(8);
        eight.dye(1, 6);
        due("15: 8 fields are not too many", eight.dealt(1, 1), 1);
        eight.dye(1, 6);
        eight.dye(1, 6);
        eight.dye(1, 6);
        due("15: 4 lots are not too many", eight.dealt(1, 2), 4);
        // yarn 5, 5, 5, 5, 5, 4, 6, 5 in four lots of 6: the one of 6 must be dealt
        int[] want = {0, 1, 2, NONE, NONE, NONE, 3, NONE};
        int seen = 0;
        for (int field = 0; field < eight.many(2); field++) {
            if (eight.of(field, 0) == 1) {
                due("14: 8 fields, 4 lots", eight.deal(field), want[seen]);
                seen++;
            }
        }
        due("14: 8 fields", seen, 8);
        for (int lot = 0; lot < 4; lot++) {
            due("13: 8 fields, 4 lots", eight.lot(lot, 2), lot == 3 ? 6 : 5);
        }
        eight.dye(1, 6);
        due("13: 5 lots are", eight.lot(0, 2), BIG);
        due("13: though not for the yarn", eight.lot(4, 1), 6);
        due("13: nor for the colour", eight.lot(4, 0), 1);
        due("13: a wrong what ahead of it", eight.lot(4, 3), NUMBER);
        due("14: 5 lots are", eight.deal(1), BIG);
        due("14: a wrong field ahead of it", eight.deal(99), NUMBER);
        due("15: 5 lots are", eight.dealt(1, 2), BIG);
        due("15: a wrong what ahead of it", eight.dealt(1, 3), NUMBER);
        due("15: not for another colour", eight.dealt(0, 0), 0);
        WeftShop nine = specks(9);
        due("14: 9 fields are too many", nine.deal(1), BIG);
        due("15: 9 fields are too many", nine.dealt(1, 0), BIG);
        due("14: not for another colour", nine.deal(0), NONE);
    }

    // ---- promise 16

    private static void weaver() {
        WeftShop x = new WeftShop();
        int[] refused = {0, 21, -1, LOW, HIGH};
        for (int bad : refused) {
            due("16: weaver refused", x.weaver(bad, true), NUMBER);
        }
        due("16: first", x.weaver(1, false), 0);
        due("16: second", x.weaver(20, true), 1);
        due("16: third", x.weaver(5, true), 2);
        due("16: fourth", x.weaver(5, false), 3);
        due("16: full", x.weaver(5, false), FULL);
        due("16: a wrong number ahead of full", x.weaver(21, false), NUMBER);
        due("16: weavers", x.many(4), 4);
    }

    // ---- promise 17

    private static void speed() {
        WeftShop x = sized(1, 10);
        due("17: none", x.speed(0, 5), NUMBER);
        x.weaver(2, false);
        due("17: was", x.speed(0, 20), 2);
        due("17: now", x.share(0), 1);
        due("17: was", x.speed(0, 1), 20);
        due("17: now", x.share(0), 10);
        int[][] refused = {{-1, 5}, {1, 5}, {0, 0}, {0, 21}, {LOW, 5}, {HIGH, 5}, {0, LOW}};
        for (int[] bad : refused) {
            due("17: speed refused", x.speed(bad[0], bad[1]), NUMBER);
        }
        due("17: as before", x.share(0), 10);
    }

    // ---- promise 18

    private static void share() {
        WeftShop x = sized(3, 10);
        due("18: no weavers", x.share(0), NONE);
        due("18: no weavers", x.share(1), NONE);
        due("18: a wrong what ahead of none", x.share(2), NUMBER);
        x.weaver(7, false);
        due("18: rounded up", x.share(0), 5);
        due("18: one strip", x.share(1), 1);
        x.weaver(20, false);
        // 2 warps by weaver 1 in 1 day, 1 warp by weaver 0 in 2; or all by weaver 1 in 2
        due("18: fewest days", x.share(0), 2);
        due("18: of them fewest strips", x.share(1), 1);
        int[] refused = {-1, 2, LOW, HIGH};
        for (int bad : refused) {
            due("18: share refused", x.share(bad), NUMBER);
        }
        WeftShop narrow = new WeftShop();
        narrow.weaver(1, false);
        narrow.weaver(1, false);
        due("18: a strip has a warp", narrow.share(1), 1);
        WeftShop wide = sized(12, 10);
        for (int i = 0; i < 4; i++) {
            wide.weaver(10, false);
        }
        due("18: each a quarter", wide.share(0), 3);
        due("18: four strips", wide.share(1), 4);
    }

    private static void whoDue(WeftShop x, String why, int... want) {
        for (int warp = 0; warp < want.length; warp++) {
            due(why + ": who(" + warp + ")", x.who(warp), want[warp]);
        }
    }

    private static void shareTies() {
        WeftShop x = sized(2, 4);
        x.weaver(2, false);
        x.weaver(2, false);
        whoDue(x, "18: lesser weaver first", 0, 1);
        // 5 warps of 2: in 6 days; weaver 0 may have 1 to 3 warps, weaver 1 the rest
        WeftShop y = sized(5, 2);
        y.weaver(1, false);
        y.weaver(2, false);
        due("18: days", y.share(0), 4);
        whoDue(y, "18: fewer warps first", 0, 1, 1, 1, 1);
        WeftShop z = sized(3, 1);
        z.weaver(1, false);
        z.weaver(3, false);
        z.weaver(3, false);
        due("18: days", z.share(0), 1);
        whoDue(z, "18: one strip, lesser weaver", 1, 1, 1);
        WeftShop v = sized(3, 2);
        v.weaver(2, false);
        v.weaver(2, false);
        due("18: days", v.share(0), 2);
        whoDue(v, "18: fewer warps for the lesser weaver", 0, 1, 1);
    }

    private static void shareFaces() {
        WeftShop x = sized(4, 2);
        x.weaver(20, false);
        due("18: a hand alone", x.share(0), 1);
        x.face(3, 1, true);
        due("18: a face and no master", x.share(0), NONE);
        x.weaver(1, true);
        // the master has warp 0, of work 4, and the hand the rest
        due("18: the work of a face is 3", x.share(0), 4);
        whoDue(x, "18: a master for the face", 1, 0, 0, 0);
        x.face(0, 0, true);
        due("18: both ends with faces", x.share(0), 12);
        whoDue(x, "18: a master for all", 1, 1, 1, 1);
        x.face(0, 0, false);
        x.face(3, 1, false);
        due("18: a master without a face, or not", x.share(1), 1);
        x.speed(1, 4);
        x.speed(0, 4);
        due("18: a master works as a hand too", x.share(0), 1);
        whoDue(x, "18: half each", 0, 0, 1, 1);
    }

    // ---- promise 19

    private static void who() {
        WeftShop x = sized(3, 1);
        due("19: none", x.who(0), NONE);
        due("19: a wrong warp ahead of none", x.who(3), NUMBER);
        x.weaver(1, false);
        x.weaver(2, false);
        whoDue(x, "19", 0, 1, 1);
        x.up();
        x.speed(0, 2);
        x.speed(1, 1);
        whoDue(x, "19: as all is now", 0, 0, 1);
        int[] refused = {-1, 3, LOW, HIGH};
        for (int bad : refused) {
            due("19: who refused", x.who(bad), NUMBER);
        }
    }

    // ---- promise 20

    private static void up() {
        WeftShop x = sized(3, 4);
        due("20: none", x.up(), NONE);
        due("20: still down", x.many(5), 0);
        x.weaver(1, false);
        x.weaver(2, false);
        due("20: strips", x.up(), 2);
        due("20: strips", x.many(5), 2);
        due("20: days", x.days(3), 3);
        due("20: done", x.strip(0, 3), 3);
        due("20: anew", x.up(), 2);
        due("20: nothing done", x.strip(0, 3), 0);
        due("20: nothing done", x.strip(1, 3), 0);
        due("20: no days", x.many(7), 0);
    }

    // ---- promise 21

    private static void days() {
        WeftShop x = sized(2, 10);
        due("21: down", x.days(1), DOWN);
        due("21: a wrong number ahead of down", x.days(0), NUMBER);
        x.weaver(1, false);
        x.weaver(2, false);
        // weaver 1 in 10 days has both warps; so does each with one
        due("21: up", x.up(), 1);
        x.weaver(3, false);
        due("21: up", x.up(), 2);
        int[] refused = {0, -1, 101, LOW, HIGH};
        for (int bad : refused) {
            due("21: days refused", x.days(bad), NUMBER);
        }
        due("21: no days yet", x.many(7), 0);
        due("21: the fewest of a strip", x.days(1), 2);
        due("21: done", x.strip(0, 3), 2);
        due("21: done", x.strip(1, 3), 3);
        due("21: on", x.days(3), 8);
        due("21: at most the work", x.strip(1, 3), 10);
        due("21: to the end", x.days(100), 10);
        due("21: at most the work", x.strip(0, 3), 10);
        due("21: days", x.many(7), 104);
    }

    /** 3 strips of one warp: weavers 0, 1, 2, slow between fast ones. */
    private static WeftShop threeStrips(int first, int second, int third) {
        WeftShop x = sized(3, 10);
        x.weaver(first, true);
        x.weaver(second, true);
        x.weaver(third, true);
        due("three strips", x.up(), 3);
        return x;
    }

    private static void doneDue(WeftShop x, String why, int... want) {
        for (int strip = 0; strip < want.length; strip++) {
            due(why + ": strip(" + strip + ", 3)", x.strip(strip, 3), want[strip]);
        }
    }

    private static void steps() {
        WeftShop x = threeStrips(3, 2, 3);
        due("21: G is 2", x.rule(1, 2), 10);
        x.days(1);
        doneDue(x, "21: one ahead", 3, 2, 3);
        x.days(1);
        doneDue(x, "21: two ahead", 6, 4, 6);
        due("22: strip 0 waits", x.strip(0, 6), 0);
        due("22: strip 1 goes on", x.strip(1, 6), 1);
        due("22: strip 2 waits", x.strip(2, 6), 0);
        x.days(1);
        doneDue(x, "21: both waited", 6, 6, 6);
        due("22: strip 0 goes on", x.strip(0, 6), 1);
        due("22: strip 2 goes on", x.strip(2, 6), 1);
        x.unweave(1, 4);
        due("22: waits again", x.strip(0, 6), 0);
        x.rule(1, 3);
        due("22: by G as it is now", x.strip(0, 6), 1);
        x.days(1);
        doneDue(x, "21: by G as it is now", 9, 6, 9);
        x.days(1);
        doneDue(x, "21: as the day begins", 9, 8, 9);
        x.days(1);
        doneDue(x, "21: the end", 10, 10, 10);
        due("22: no work left", x.strip(1, 6), 0);
        WeftShop y = threeStrips(3, 2, 3);
        y.rule(1, 1);
        y.days(1);
        doneDue(y, "21: G of 1", 3, 2, 3);
        y.days(1);
        doneDue(y, "21: G of 1", 3, 4, 3);
        y.days(1);
        doneDue(y, "21: the middle waits for both", 6, 4, 6);
        WeftShop z = threeStrips(3, 3, 2);
        z.rule(1, 2);
        z.days(2);
        doneDue(z, "21: only strips beside count", 6, 6, 4);
        z.days(1);
        doneDue(z, "21: only strips beside count", 9, 6, 6);
    }

    // ---- promise 22

    private static void strip() {
        WeftShop x = sized(6, 4);
        due("22: down", x.strip(0, 0), DOWN);
        due("22: down ahead of a wrong number", x.strip(-1, 9), DOWN);
        x.weaver(2, false);
        x.weaver(4, true);
        x.face(0, 0, true);
        x.up();
        int[][] want = {{0, 0, 2, 0, 8, 0, 1}, {1, 2, 4, 0, 18, 0, 1}};
        for (int strip = 0; strip < 2; strip++) {
            for (int what = 0; what < 7; what++) {
                due("22: strip(" + strip + ", " + what + ")", x.strip(strip, what), want[strip][what]);
            }
        }
        x.days(2);
        due("22: done", x.strip(0, 3), 4);
        due("22: done", x.strip(1, 3), 8);
        due("22: whole picks", x.strip(0, 5), 2);
        due("22: whole picks", x.strip(1, 5), 1);
        int[][] refused = {{-1, 0}, {2, 0}, {0, -1}, {0, 7}, {LOW, 0}, {HIGH, 0}, {0, HIGH}};
        for (int[] bad : refused) {
            due("22: strip refused", x.strip(bad[0], bad[1]), NUMBER);
        }
    }

    // ---- promise 23

    private static void woven() {
        WeftShop x = sized(3, 2);
        due("23: down", x.woven(0, 0), DOWN);
        due("23: down ahead of a wrong number", x.woven(9, 9), DOWN);
        x.weaver(4, true);
        x.face(1, 0, true);
        x.up();
        // work goes 1, 3, 1 at pick 0, then 1, 1, 1
        int[][] want = {{0, 0, 0, 0, 0, 0}, {1, 1, 0, 0, 0, 0}, {1, 1, 1, 1, 1, 1}};
        for (int[] row : want) {
            for (int place = 0; place < 6; place++) {
                due("23: woven at " + place, x.woven(place % 3, place / 3), row[place]);
            }
            x.days(1);
        }
        x.up();
        x.speed(0, 3);
        x.up();
        x.days(1);
        due("23: a face wants all its work", x.woven(1, 0), 0);
        due("23: one is woven", x.many(6), 1);
        int[][] refused = {{-1, 0}, {3, 0}, {0, -1}, {0, 2}, {LOW, 0}, {0, HIGH}};
        for (int[] bad : refused) {
            due("23: woven refused", x.woven(bad[0], bad[1]), NUMBER);
        }
    }

    // ---- promise 24

    private static void unweave() {
        WeftShop x = sized(2, 5);
        due("24: down", x.unweave(0, 0), DOWN);
        due("24: down ahead of a wrong number", x.unweave(9, 9), DOWN);
        x.weaver(3, true);
        x.face(0, 1, true);
        x.up();
        x.days(3);
        // work of picks: 2, 4, 2, 2, 2
        due("24: not above that", x.unweave(0, 4), 0);
        due("24: from pick 3", x.unweave(0, 3), 1);
        due("24: done", x.strip(0, 3), 8);
        due("24: just that", x.unweave(0, 3), 0);
        due("24: from pick 2", x.unweave(0, 2), 2);
        due("24: from pick 1", x.unweave(0, 1), 4);
        due("24: from pick 0", x.unweave(0, 0), 2);
        due("24: nothing done", x.strip(0, 3), 0);
        due("24: days stay", x.many(7), 3);
        int[][] refused = {{-1, 0}, {1, 0}, {0, -1}, {0, 5}, {LOW, 0}, {HIGH, 0}, {0, HIGH}};
        for (int[] bad : refused) {
            due("24: unweave refused", x.unweave(bad[0], bad[1]), NUMBER);
        }
    }

    private static void unweaveFourStrips() {
        WeftShop x = sized(4, 10);
        for (int weaver = 0; weaver < 4; weaver++) {
            x.weaver(5, false);
        }
        due("24: four strips", x.up(), 4);
        due("24: all woven", x.days(2), 10);
        for (int strip = 3; strip >= 0; strip--) {
            for (int pick = 9; pick >= 0; pick--) {
                due("24: woven still", x.woven(strip, pick), 1);
                due("24: a pick less", x.unweave(strip, pick), 1);
                due("24: no more", x.woven(strip, pick), 0);
                due("24: whole picks", x.strip(strip, 5), pick);
            }
        }
    }

    // ---- promise 25

    private static void many() {
        WeftShop x = sized(3, 4);
        x.paint(0, 0, 1, 1, 1);
        x.dye(0, 1);
        x.dye(0, 1);
        x.weaver(1, true);
        x.weaver(1, true);
        x.weaver(1, false);
        x.face(2, 3, true);
        x.up();
        x.days(2);
        int[] want = {3, 4, 2, 2, 3, 3, 6, 2, 1};
        for (int what = 0; what < want.length; what++) {
            due("25: many(" + what + ")", x.many(what), want[what]);
        }
        x.speed(0, 1);
        due("25: no strips", x.many(5), 0);
        due("25: nothing woven", x.many(6), 0);
        due("25: no days", x.many(7), 0);
        int[] refused = {-1, 9, LOW, HIGH};
        for (int bad : refused) {
            due("25: many refused", x.many(bad), NUMBER);
        }
    }

    // ---- the loom is taken down

    private static WeftShop set() {
        WeftShop x = sized(2, 2);
        x.weaver(1, true);
        x.up();
        due("up", x.many(5), 1);
        return x;
    }

    private static void takenDown() {
        WeftShop x = set();
        x.size(2, 2);
        due("2: size takes it down", x.days(1), DOWN);
        x = set();
        x.paint(0, 0, 1, 1, 0);
        due("3: paint takes it down", x.days(1), DOWN);
        x = set();
        x.face(0, 0, true);
        due("4: a new face takes it down", x.days(1), DOWN);
        x = set();
        x.weaver(1, false);
        due("16: a weaver takes it down", x.days(1), DOWN);
        x = set();
        x.speed(0, 1);
        due("17: the same speed takes it down", x.days(1), DOWN);
        x = set();
        x.face(0, 0, false);
        x.dye(0, 1);
        x.rule(0, 1);
        x.rule(1, 1);
        x.keep();
        due("it stays up", x.days(2), 1);
    }

    // ---- promises 26 and 27

    private static void keepAndBack() {
        WeftShop x = sized(3, 4);
        due("27: nothing is kept", x.back(), NONE);
        x.paint(0, 0, 1, 1, 5);
        x.face(1, 1, true);
        x.dye(5, 9);
        x.weaver(2, true);
        x.weaver(1, false);
        x.up();
        x.days(2);
        int[] want = new int[9];
        for (int what = 0; what < 9; what++) {
            want[what] = x.many(what);
        }
        int done = x.strip(0, 3);
        due("26: keep", x.keep(), 1);
        x.days(1);
        x.unweave(0, 0);
        x.size(5, 5);
        x.dye(1, 1);
        x.weaver(3, false);
        x.speed(0, 20);
        x.rule(0, 7);
        x.rule(1, 4);
        x.up();
        for (int turn = 0; turn < 2; turn++) {
            due("27: back", x.back(), 1);
            for (int what = 0; what < 9; what++) {
                due("27: many(" + what + ") as kept", x.many(what), want[what]);
            }
            due("27: colour", x.cartoon(0, 0), 5);
            due("27: face", x.cartoon(1, 1), 8);
            due("27: done", x.strip(0, 3), done);
            due("27: lot", x.lot(0, 1), 9);
            due("27: days go on", x.days(100), 4);
            x.dye(2, 2);
            x.paint(0, 0, 1, 1, 3);
        }
        due("27: S is not kept", x.rule(0, 3), 7);
        due("27: G is not kept", x.rule(1, 10), 4);
        due("27: speed as kept", x.speed(0, 9), 2);
        x.size(1, 1);
        due("26: keep anew", x.keep(), 1);
        x.size(2, 2);
        x.back();
        due("27: the latest", x.many(0), 1);
        due("27: down as kept", x.many(5), 0);
        x.up();
        x.back();
        due("27: down as kept", x.strip(0, 0), DOWN);
    }

    /** All of a loom that is up comes back, though another one stood in between. */
    private static void backWithStrips() {
        WeftShop x = sized(7, 3);
        x.weaver(2, false);
        x.weaver(3, true);
        x.weaver(2, true);
        x.face(6, 1, true);
        due("27: up", x.up(), 3);
        x.days(2);
        int[] kept = new int[21];
        for (int i = 0; i < 21; i++) {
            kept[i] = x.strip(i / 7, i % 7);
        }
        int[] woven = new int[21];
        for (int i = 0; i < 21; i++) {
            woven[i] = x.woven(i % 7, i / 7);
        }
        x.keep();
        x.size(12, 10);
        x.speed(0, 20);
        x.weaver(19, false);
        x.face(0, 0, true);
        x.up();
        x.days(3);
        due("27: back", x.back(), 1);
        for (int i = 0; i < 21; i++) {
            due("27: strip(" + i / 7 + ", " + i % 7 + ")", x.strip(i / 7, i % 7), kept[i]);
            due("27: woven(" + i % 7 + ", " + i / 7 + ")", x.woven(i % 7, i / 7), woven[i]);
        }
        due("27: no strip beyond", x.strip(3, 0), NUMBER);
        // weaver 1 has 3 warps of work 3, 5, 3 a pick, weavers 0 and 2 have 2 each
        due("27: speeds too", x.days(1), 2);
        doneDue(x, "27: speeds too", 9, 6, 6);
        due("27: days too", x.many(7), 3);
    }

    // ---- refused calls

    private static void refusedChangesNothing() {
        WeftShop x = set();
        x.days(1);
        x.size(0, 1);
        x.paint(0, 0, 3, 1, 1);
        x.paint(0, 0, 1, 1, 9);
        x.face(2, 0, true);
        x.weaver(0, true);
        x.speed(0, 0);
        x.speed(1, 1);
        x.days(0);
        x.unweave(1, 0);
        x.unweave(0, 2);
        x.back();
        due("refused calls leave it up", x.many(7), 1);
        due("refused calls leave DONE", x.strip(0, 3), 1);
        due("refused calls leave the colours", x.many(2), 1);
        x.weaver(1, true);
        x.weaver(1, true);
        x.weaver(1, true);
        x.up();
        x.days(1);
        due("full", x.weaver(1, true), FULL);
        due("FULL leaves it up", x.many(7), 1);
    }
}
