import java.io.IOException;

/** The sentences that the document sets ahead of its promises: its words, its constants, what refusals are. */
public final class TermTest extends SentenceTest {
    public static void main(String[] args) throws IOException {
        tapestryShop();
        calls();
        cartoon();
        mirrored();
        places();
        slit();
        sewn();
        fields();
        yarn();
        lots();
        dealings();
        theDealing();
        weavers();
        work();
        sharings();
        daysOfSharings();
        theSharing();
        setUpAndDown();
        strips();
        woven();
        wholePicks();
        day();
        refusedChangesNothing();
        firstRefusal();
        constants();
        end("TermTest", "What it is", "Terms");
    }

    /** On the loom, 4 warps and 6 picks: colour 1 at warps 2 and 3 from pick 0 to 4, a face at warp 3, pick 5. */
    private static void tapestryShop() {
        sentence("What it is", "A tapestry shop: cartoons are woven mirrored, slits between colours are told and those too"
            + " long are sewn, fields of one colour get one lot of dye each where lots suffice, the loom's width is shared"
            + " among weavers in the fewest days with faces for masters, strips keep in step from day to day, and a spoilt"
            + " strip is unwoven from its pick on.");
        WeftShop x = sized(4, 6);
        x.paint(0, 0, 2, 5, 1);
        x.face(0, 5, true);
        due("mirrored", x.loom(3, 0), 1);
        due("mirrored", x.loom(0, 0), 0);
        due("mirrored", x.loom(3, 5), 8);
        due("a slit is told", x.slit(1, 0), 5);
        due("5 is too long", x.slits(1), 1);
        x.dye(1, 26);
        x.dye(1, 27);
        due("a field of 10 squares and 7 sides", x.of(1, 2), 27);
        due("the lot that suffices", x.deal(1), 1);
        x.dye(0, 34);
        due("a field of 14 squares and 7 sides, and no lot for it", x.deal(0), NONE);
        x.weaver(6, false);
        x.weaver(2, true);
        due("work of 18 by 6, 8 by 2", x.share(0), 4);
        whoDue(x, 0, 0, 0, 1);
        due("two strips", x.up(), 2);
        due("G is 1", x.rule(1, 1), 10);
        due("two picks of 3, two of 1", x.days(1), 2);
        due("in step", x.days(1), 4);
        due("the hand's strip is spoilt from pick 2 on", x.unweave(0, 2), 6);
        stripsDue(x, 5, 2, 4);
        due("the master waits", x.days(1), 4);
        stripsDue(x, 3, 12, 4);
        due("the face takes longer", x.days(1), 5);
        stripsDue(x, 3, 18, 6);
        due("the face isn't woven", x.woven(3, 5), 0);
        due("all is", x.days(1), 6);
        due("the face is woven", x.woven(3, 5), 1);
        due("the face is spoilt", x.unweave(1, 5), 3);
        due("one square less", x.many(6), 23);
    }

    private static void calls() {
        sentence("What it is", "An object is used for at most 512 calls after it has been made; what later calls"
            + " answer is free.");
        WeftShop x = new WeftShop();
        x.size(12, 10);
        x.weaver(1, false);
        x.up();
        for (int call = 4; call <= 510; call++) {
            x.days(100);
        }
        due("many(7) as call 511", x.many(7), 50700);
        due("strip(0, 3) as call 512", x.strip(0, 3), 120);
        WeftShop y = new WeftShop();
        for (int call = 1; call <= 512; call++) {
            due("rule as call " + call, y.rule(0, call % 11), call == 1 ? 3 : (call - 1) % 11);
        }
    }

    // ---- 1

    private static void cartoon() {
        sentence("Terms", "THE CARTOON is a board of COLUMNS (1 to 12) and ROWS (1 to 10) of SQUARES, each with a"
            + " COLOUR (0 to 7; 0 at first), and a FACE or none (none at first).");
        due("a new object's square", new WeftShop().cartoon(0, 0), 0);
        due("a new object's faces", new WeftShop().many(8), 0);
        int[][] sizes = {{1, 1}, {12, 1}, {1, 10}, {12, 10}};
        for (int[] size : sizes) {
            WeftShop x = sized(size[0], size[1]);
            due("columns", x.many(0), size[0]);
            due("rows", x.many(1), size[1]);
            due("the last square at first", x.cartoon(size[0] - 1, size[1] - 1), 0);
            due("a column beyond", x.cartoon(size[0], 0), NUMBER);
            due("a row beyond", x.cartoon(0, size[1]), NUMBER);
            due("faces at first", x.many(8), 0);
        }
        WeftShop x = new WeftShop();
        due("no columns", x.size(0, 1), NUMBER);
        due("13 columns", x.size(13, 1), NUMBER);
        due("no rows", x.size(1, 0), NUMBER);
        due("11 rows", x.size(1, 11), NUMBER);
        for (int colour = 0; colour < 8; colour++) {
            due("paint", x.paint(0, 0, 1, 1, colour), 1);
            due("colour", x.cartoon(0, 0), colour);
        }
        due("no colour -1", x.paint(0, 0, 1, 1, -1), NUMBER);
        due("no colour 8", x.paint(0, 0, 1, 1, 8), NUMBER);
        due("face", x.face(0, 0, true), 1);
        due("colour and face", x.cartoon(0, 0), 15);
    }

    private static void mirrored() {
        sentence("Terms", "THE LOOM has as many WARPS and PICKS; what is in column c, row r of THE CARTOON is woven at"
            + " WARP COLUMNS - 1 - c, PICK r.");
        WeftShop x = sized(12, 10);
        for (int place = 0; place < 120; place++) {
            x.paint(place % 12, place / 12, 1, 1, (place % 12 * 3 + place / 12 * 5) % 8);
            if (place % 7 == 0) {
                x.face(place % 12, place / 12, true);
            }
        }
        for (int place = 0; place < 120; place++) {
            int want = (place % 12 * 3 + place / 12 * 5) % 8 + (place % 7 == 0 ? 8 : 0);
            due("loom, of place " + place, x.loom(11 - place % 12, place / 12), want);
        }
        due("warp 12", x.loom(12, 0), NUMBER);
        due("pick 10", x.loom(0, 10), NUMBER);
        WeftShop narrow = sized(5, 2);
        narrow.paint(0, 1, 1, 1, 3);
        narrow.paint(4, 0, 1, 1, 4);
        due("the first column is the last warp", narrow.loom(4, 1), 3);
        due("the last column is the first warp", narrow.loom(0, 0), 4);
        due("warp 5", narrow.loom(5, 0), NUMBER);
        due("pick 2", narrow.loom(0, 2), NUMBER);
        WeftShop one = new WeftShop();
        one.paint(0, 0, 1, 1, 6);
        due("one square alone", one.loom(0, 0), 6);
    }

    private static void places() {
        sentence("Terms", "From here on SQUARES are told by WARP and PICK; their PLACES go by picks: PICK times COLUMNS"
            + " and WARP.");
        WeftShop x = sized(5, 3);
        x.paint(1, 2, 1, 1, 1);
        due("place of warp 3, pick 2 of 5 columns", x.of(1, 3), 13);
        due("its field", x.field(3, 2), 1);
        WeftShop all = sized(12, 10);
        all.paint(0, 9, 1, 1, 1);
        due("the last place", all.of(1, 3), 119);
        WeftShop high = sized(1, 10);
        high.paint(0, 9, 1, 1, 1);
        due("place of one column", high.of(1, 3), 9);
        WeftShop wide = sized(12, 1);
        wide.paint(0, 0, 1, 1, 1);
        due("place of one row", wide.of(1, 3), 11);
        due("the first place", wide.of(0, 3), 0);
    }

    private static void slit() {
        sentence("Terms", "A SLIT lies between WARPS w and w + 1: PICKS, one behind the other, as many as can be, at"
            + " each of which both SQUARES have unlike COLOURS.");
        WeftShop x = sized(3, 10);
        // warp 2: colour 1 at picks 0 and 1, 2 at picks 2 and 3, none at pick 4, 3 from pick 5 to the end
        x.paint(0, 0, 1, 2, 1);
        x.paint(0, 2, 1, 2, 2);
        x.paint(0, 5, 1, 5, 3);
        int[] want = {4, 4, 4, 4, 0, 5, 5, 5, 5, 5};
        for (int pick = 0; pick < 10; pick++) {
            due("slit(1, " + pick + ")", x.slit(1, pick), want[pick]);
            due("slit(0, " + pick + "), like colours", x.slit(0, pick), 0);
        }
        due("slits", x.slits(0), 2);
        x.paint(1, 0, 1, 10, 4);
        due("the whole height", x.slit(0, 0), 10);
        due("another one beside it", x.slit(1, 9), 10);
        due("two slits", x.slits(0), 2);
        WeftShop y = sized(2, 3);
        y.paint(0, 1, 1, 1, 1);
        y.face(0, 0, true);
        due("a face makes no slit", y.slit(0, 0), 0);
        due("a slit of one pick", y.slit(0, 1), 1);
        y.paint(1, 1, 1, 1, 1);
        due("like colours that are new", y.slit(0, 1), 0);
        due("colours unlike above and below make none", y.slits(0), 0);
    }

    private static void sewn() {
        sentence("Terms", "It is SEWN if it is longer than S (0 to 10; 3 at first).");
        for (int length = 1; length <= 10; length++) {
            WeftShop x = sized(2, 10);
            x.paint(0, 0, 1, length, 1);
            due("sewn at first, length " + length, x.slits(1), length > 3 ? 1 : 0);
            for (int s = 0; s <= 10; s++) {
                due("S", x.rule(0, s), s == 0 ? 3 : s - 1);
                due("sewn, length " + length + ", S " + s, x.slits(1), length > s ? 1 : 0);
                due("picks, length " + length + ", S " + s, x.slits(2), length > s ? length : 0);
            }
        }
        WeftShop none = sized(2, 10);
        none.rule(0, 0);
        due("without slits none is sewn, though S is 0", none.slits(1), 0);
        due("S of -1", none.rule(0, -1), NUMBER);
        due("S of 11", none.rule(0, 11), NUMBER);
    }

    // ---- 2

    private static void fields() {
        sentence("Terms", "FIELDS: SQUARES of one COLOUR that hang together by being beside, above or below each other,"
            + " as many as can be; numbered from 0 by their least PLACES.");
        WeftShop one = sized(12, 10);
        due("all of one colour", one.many(2), 1);
        one.face(3, 3, true);
        due("a face parts nothing", one.many(2), 1);
        WeftShop corner = sized(2, 2);
        corner.paint(0, 0, 1, 1, 1);
        corner.paint(1, 1, 1, 1, 1);
        due("corners don't hang together", corner.many(2), 4);
        // on the loom  1 0 1 / 1 2 1 / 1 1 1: the arms of colour 1 hang together at the bottom
        WeftShop arms = sized(3, 3);
        arms.paint(0, 0, 3, 3, 1);
        arms.paint(1, 0, 1, 1, 0);
        arms.paint(1, 1, 1, 1, 2);
        int[][] want = {{0, 1, 0}, {0, 2, 0}, {0, 0, 0}};
        for (int pick = 0; pick < 3; pick++) {
            for (int warp = 0; warp < 3; warp++) {
                due("field(" + warp + ", " + pick + ")", arms.field(warp, pick), want[pick][warp]);
            }
        }
        WeftShop snake = sized(12, 10);
        for (int row = 1; row < 10; row += 2) {
            snake.paint(row % 4 == 1 ? 0 : 1, row, 11, 1, 1);
        }
        due("a snake of colour 0, and five rows of colour 1 within its bends", snake.many(2), 6);
        due("the snake's head", snake.field(0, 0), 0);
        due("the snake's tail", snake.field(0, 8), 0);
        due("its squares", snake.of(0, 1), 65);
        WeftShop rows = sized(2, 3);
        rows.paint(0, 1, 2, 1, 1);
        due("one colour, parted", rows.field(0, 2), 2);
        due("the first", rows.field(1, 0), 0);
        rows.paint(0, 0, 1, 3, 2);
        due("numbered by picks, then by warps", rows.field(1, 2), 1);
        due("numbered by picks, then by warps", rows.field(0, 1), 2);
        due("numbered by picks, then by warps", rows.field(0, 2), 3);
        WeftShop most = checkered();
        due("as many fields as squares", most.many(2), 120);
        due("the last field", most.field(11, 9), 119);
    }

    private static void yarn() {
        sentence("Terms", "YARN of a FIELD: 2 for each SQUARE, and 1 for each of its sides beyond which there is a"
            + " SQUARE of another FIELD.");
        due("one square, no sides", new WeftShop().of(0, 2), 2);
        due("the edges of the board are no sides", sized(12, 10).of(0, 2), 240);
        WeftShop ring = sized(3, 3);
        ring.paint(1, 1, 1, 1, 4);
        due("a square in the middle", ring.of(1, 2), 6);
        due("each side within the ring counts", ring.of(0, 2), 20);
        WeftShop two = sized(2, 1);
        two.paint(0, 0, 1, 1, 1);
        due("one side", two.of(0, 2), 3);
        due("one side", two.of(1, 2), 3);
        WeftShop corner = sized(2, 2);
        corner.paint(0, 1, 1, 1, 1);
        due("two sides above and beside, for the three", corner.of(0, 2), 8);
        due("two sides above and beside, for the one", corner.of(1, 2), 4);
        WeftShop most = checkered();
        due("at a corner of the board", most.of(0, 2), 4);
        due("at an edge of the board", most.of(1, 2), 5);
        due("amid the board", most.of(13, 2), 6);
    }

    private static void lots() {
        sentence("Terms", "LOTS are numbered from 0 as they are dyed, 12 at most, each of a COLOUR, with YARN"
            + " (1 to 300).");
        WeftShop x = new WeftShop();
        for (int lot = 0; lot < 12; lot++) {
            due("dye", x.dye(lot % 8, lot % 2 == 0 ? 1 + lot : 300 - lot), lot);
        }
        due("a 13th", x.dye(0, 1), FULL);
        for (int lot = 0; lot < 12; lot++) {
            due("lot(" + lot + ", 0)", x.lot(lot, 0), lot % 8);
            due("lot(" + lot + ", 1)", x.lot(lot, 1), lot % 2 == 0 ? 1 + lot : 300 - lot);
        }
        WeftShop y = new WeftShop();
        due("yarn of 0", y.dye(0, 0), NUMBER);
        due("yarn of 301", y.dye(0, 301), NUMBER);
        due("colour -1", y.dye(-1, 1), NUMBER);
        due("colour 8", y.dye(8, 1), NUMBER);
        due("yarn of 1", y.dye(0, 1), 0);
        due("yarn of 300", y.dye(7, 300), 1);
    }

    private static void dealings() {
        sentence("Terms", "A DEALING of a COLOUR gives some FIELDS of that COLOUR a LOT of it each, no LOT more YARN"
            + " together than it has.");
        WeftShop brim = bars(1);
        brim.dye(1, 3);
        dealDue(brim, NONE);
        brim.dye(1, 4);
        dealDue(brim, 1);
        WeftShop less = bars(1, 1);
        less.dye(1, 7);
        dealDue(less, 0, NONE);
        WeftShop together = bars(1, 1);
        together.dye(1, 8);
        dealDue(together, 0, 0);
        due("both of one lot", together.lot(0, 2), 8);
        WeftShop parted = bars(3);
        parted.dye(1, 7);
        parted.dye(1, 7);
        dealDue(parted, NONE);
        WeftShop other = bars(1, 2);
        other.dye(2, 300);
        other.dye(0, 22);
        dealDue(other, NONE, NONE);
        due("colour 0's first field, of its lot", other.deal(0), 1);
        due("colour 0's second field, of its lot", other.deal(2), 1);
        due("colour 0's last field: 3, 4 and 15 are just 22", other.deal(4), 1);
        due("colour 0 in all", other.dealt(0, 0), 22);
    }

    private static void theDealing() {
        sentence("Terms", "THE DEALING deals the most YARN; of several it is the one in which the first FIELD for which"
            + " they are unlike has the lesser LOT (none stands behind all).");
        WeftShop most = bars(1, 2, 3);
        most.dye(1, 9);
        dealDue(most, NONE, NONE, 0);
        most.dye(1, 10);
        dealDue(most, 1, 1, 0);
        WeftShop two = bars(3, 2, 2);
        two.dye(1, 12);
        dealDue(two, NONE, 0, 0);
        WeftShop later = bars(1, 2, 3);
        later.dye(1, 8);
        later.dye(1, 4);
        dealDue(later, 1, NONE, 0);
        WeftShop lesser = bars(1, 1);
        lesser.dye(1, 8);
        lesser.dye(1, 8);
        dealDue(lesser, 0, 0);
        WeftShop each = bars(1, 1, 1);
        each.dye(1, 4);
        each.dye(1, 4);
        dealDue(each, 0, 1, NONE);
        each.dye(1, 4);
        dealDue(each, 0, 1, 2);
        WeftShop again = bars(1, 1, 1);
        again.dye(1, 5);
        again.dye(1, 8);
        dealDue(again, 0, 1, 1);
        WeftShop first = bars(2, 1, 1, 2);
        first.dye(1, 10);
        dealDue(first, 0, 0, NONE, NONE);
        // 12 can be dealt with or without the first field, which fits into lot 1 alone
        WeftShop behind = bars(3, 1, 1, 1);
        behind.dye(1, 4);
        behind.dye(1, 8);
        dealDue(behind, 1, 0, NONE, NONE);
        // the last field fits into lot 3 with the first, but lot 2 is lesser
        WeftShop last = bars(2, 1);
        last.dye(1, 3);
        last.dye(1, 3);
        last.dye(1, 4);
        last.dye(1, 10);
        dealDue(last, 3, 2);
        ofFarTies();
        ofTheMost();
    }

    /** Lot 1 for the first field would give the second lot 0; but the first field comes first. */
    private static void ofFarTies() {
        WeftShop x = sized(12, 10);
        // yarn 6, 22, 14, 18, 18; of 46 in two lots 42 can be dealt at the most
        int[][] bars = {{1, 1, 1}, {3, 1, 5}, {1, 3, 3}, {5, 3, 4}, {1, 5, 4}};
        int[] yarns = {6, 22, 14, 18, 18};
        for (int[] bar : bars) {
            x.paint(12 - bar[0] - bar[2], bar[1], bar[2], 1, 1);
        }
        x.dye(1, 25);
        x.dye(1, 21);
        int[] want = {0, NONE, NONE, 0, 1};
        for (int field = 1; field <= 5; field++) {
            due("yarn of field " + field, x.of(field, 2), yarns[field - 1]);
            due("deal(" + field + ")", x.deal(field), want[field - 1]);
        }
        due("dealt", x.dealt(1, 0), 42);
    }

    /** 8 fields, yarn 5, 5, 5, 5, 5, 4, 6, 5, and one lot to four of 6: that of 6 is dealt whatever comes first. */
    private static void ofTheMost() {
        WeftShop x = specks(8);
        x.dye(1, 6);
        specksDue(x, NONE, NONE, NONE, NONE, NONE, NONE, 0, NONE);
        x.dye(1, 6);
        specksDue(x, 0, NONE, NONE, NONE, NONE, NONE, 1, NONE);
        x.dye(1, 6);
        x.dye(1, 6);
        specksDue(x, 0, 1, 2, NONE, NONE, NONE, 3, NONE);
    }

    private static void specksDue(WeftShop x, int... want) {
        int seen = 0;
        for (int field = 0; field < 9; field++) {
            if (x.of(field, 0) == 1) {
                due("deal(" + field + ")", x.deal(field), want[seen]);
                seen++;
            }
        }
        due("fields", seen, 8);
    }

    // ---- 3

    private static void weavers() {
        sentence("Terms", "WEAVERS are numbered from 0 as they come, 4 at most; each has a SPEED (1 to 20), and is a"
            + " HAND, or a MASTER under HAND.");
        WeftShop x = sized(1, 10);
        due("speed of 0", x.weaver(0, false), NUMBER);
        due("speed of 21", x.weaver(21, true), NUMBER);
        int[] speeds = {1, 20, 7, 8};
        for (int weaver = 0; weaver < 4; weaver++) {
            due("weaver", x.weaver(speeds[weaver], weaver == 2), weaver);
        }
        due("a fifth", x.weaver(5, true), FULL);
        due("the fastest has all", x.who(0), 1);
        x.face(0, 0, true);
        due("the master has the face, not a faster hand", x.who(0), 2);
        for (int weaver = 0; weaver < 4; weaver++) {
            due("speed", x.speed(weaver, 1), speeds[weaver]);
        }
    }

    private static void work() {
        sentence("Terms", "WORK of a SQUARE is 1, with a FACE 3.");
        WeftShop x = new WeftShop();
        x.weaver(1, true);
        x.up();
        due("without", x.strip(0, 4), 1);
        x.face(0, 0, true);
        x.up();
        due("with", x.strip(0, 4), 3);
        x.face(0, 0, false);
        x.up();
        due("without again", x.strip(0, 4), 1);
        WeftShop all = sized(12, 10);
        all.weaver(20, true);
        faceAll(all);
        all.up();
        due("all with", all.strip(0, 4), 360);
        all.paint(0, 0, 12, 10, 7);
        all.up();
        due("colours are no work", all.strip(0, 4), 360);
    }

    private static void sharings() {
        sentence("Terms", "A SHARING parts the WARPS, from 0 on, into STRIPS of 1 or more WARPS, one behind the other,"
            + " each with a WEAVER, none with one that another has; STRIPS with a FACE have MASTERS.");
        WeftShop narrow = new WeftShop();
        narrow.weaver(1, false);
        narrow.weaver(1, false);
        due("one warp can't be parted", narrow.share(1), 1);
        WeftShop scarce = sized(3, 1);
        due("without weavers", scarce.share(0), NONE);
        scarce.weaver(1, false);
        scarce.weaver(1, false);
        due("no weaver has two strips", scarce.share(1), 2);
        due("no weaver has two strips", scarce.share(0), 2);
        WeftShop wide = fourAlike(10);
        due("four strips", wide.share(1), 4);
        whoDue(wide, 0, 0, 0, 1, 1, 1, 2, 2, 2, 3, 3, 3);
        WeftShop single = sized(12, 10);
        single.weaver(1, false);
        whoDue(single, 0, 0, 0, 0, 0, 0, 0, 0, 0, 0, 0, 0);
        WeftShop hand = sized(2, 2);
        hand.weaver(20, false);
        hand.face(0, 1, true);
        due("a face and no master", hand.share(0), NONE);
        hand.weaver(1, true);
        whoDue(hand, 0, 1);
        hand.face(1, 0, true);
        whoDue(hand, 1, 1);
        hand.face(1, 0, false);
        hand.face(0, 1, false);
        hand.speed(0, 2);
        hand.speed(1, 2);
        whoDue(hand, 0, 1);
        whoDue(facesAtBothEnds(), 1, 0, 2);
        WeftShop amid = sized(3, 2);
        amid.weaver(20, false);
        amid.weaver(20, false);
        amid.weaver(1, true);
        amid.face(1, 1, true);
        whoDue(amid, 0, 2, 1);
    }

    /** WORK 6, 4, 6: two MASTERS for the ends, a HAND between them. */
    private static WeftShop facesAtBothEnds() {
        WeftShop x = sized(3, 4);
        x.weaver(4, false);
        x.weaver(2, true);
        x.weaver(2, true);
        x.face(0, 0, true);
        x.face(2, 3, true);
        return x;
    }

    private static void daysOfSharings() {
        sentence("Terms", "DAYS of a STRIP: WORK of its SQUARES by SPEED, rounded up; of a SHARING those of the STRIP"
            + " with the most.");
        WeftShop x = sized(1, 10);
        x.weaver(1, true);
        for (int speed = 1; speed <= 20; speed++) {
            x.speed(0, speed);
            int days = 1;
            while (days * speed < 10) {
                days++;
            }
            due("days at speed " + speed, x.share(0), days);
        }
        x.speed(0, 4);
        x.face(0, 0, true);
        due("just 12 by 4", x.share(0), 3);
        x.face(0, 1, true);
        due("14 by 4", x.share(0), 4);
        WeftShop two = sized(2, 10);
        two.weaver(3, false);
        two.weaver(4, false);
        due("the most of 4 and 3", two.share(0), 4);
        due("in two strips", two.share(1), 2);
        WeftShop longest = sized(12, 10);
        longest.weaver(1, true);
        faceAll(longest);
        due("the most that can be", longest.share(0), 360);
    }

    private static void theSharing() {
        sentence("Terms", "THE SHARING has the fewest DAYS; of several the fewest STRIPS; of several it is the one in"
            + " which the first STRIP (from WARP 0) for which they are unlike has the lesser WEAVER, or, being the same,"
            + " fewer WARPS.");
        whoDue(shared(1, 6, 1, 5), 0, 1, 1, 1, 1, 1);
        // all by weaver 1 in 2 days, or a warp by weaver 0 in 2
        whoDue(shared(10, 3, 7, 20), 1, 1, 1);
        due("fewest strips", shared(10, 3, 7, 20).share(1), 1);
        whoDue(shared(1, 3, 1, 3, 3), 1, 1, 1);
        whoDue(shared(4, 2, 2, 2), 0, 1);
        whoDue(shared(2, 3, 2, 2), 0, 1, 1);
        whoDue(shared(2, 5, 1, 2), 0, 1, 1, 1, 1);
        // in a day: two warps by weaver 0 behind a warp by weaver 1, or ahead of it
        whoDue(shared(2, 3, 4, 2), 0, 0, 1);
        whoDue(shared(1, 5, 2, 2, 2), 0, 1, 1, 2, 2);
        whoDue(shared(1, 4, 2, 1, 1), 0, 0, 1, 2);
        whoDue(shared(1, 4, 1, 2, 1), 0, 1, 1, 2);
        whoDue(shared(1, 11, 3, 3, 3, 3), 0, 0, 1, 1, 1, 2, 2, 2, 3, 3, 3);
        // a slower one has no strip: three strips do
        whoDue(shared(10, 3, 1, 10, 10, 10), 1, 2, 3);
    }

    private static WeftShop shared(int rows, int columns, int... speeds) {
        WeftShop x = sized(columns, rows);
        for (int speed : speeds) {
            x.weaver(speed, false);
        }
        return x;
    }

    private static void setUpAndDown() {
        sentence("Terms", "THE LOOM is SET UP by a SHARING; it is taken DOWN by each size(), paint(), weaver(), speed()"
            + " that isn't refused, and by a face() that is new.");
        WeftShop up = facesAtBothEnds();
        due("strips before", up.many(5), 0);
        due("up", up.up(), 3);
        stripsDue(up, 0, 1, 0, 2);
        takesDown("size as it was", x -> x.size(4, 3), 12);
        takesDown("size", x -> x.size(1, 1), 1);
        takesDown("paint as it was", x -> x.paint(3, 2, 1, 1, 2), 1);
        takesDown("paint", x -> x.paint(0, 0, 4, 3, 7), 12);
        takesDown("weaver", x -> x.weaver(1, false), 3);
        takesDown("speed as it was", x -> x.speed(1, 3), 3);
        takesDown("speed", x -> x.speed(2, 20), 1);
        takesDown("face", x -> x.face(0, 0, true), 1);
        takesDown("face taken off", x -> x.face(1, 1, false), 1);
        staysUp("face that is there", x -> x.face(1, 1, true), 0);
        staysUp("no face where none is", x -> x.face(0, 0, false), 0);
        staysUp("size refused", x -> x.size(13, 1), NUMBER);
        staysUp("paint refused", x -> x.paint(0, 0, 5, 1, 1), NUMBER);
        staysUp("weaver refused", x -> x.weaver(21, true), NUMBER);
        staysUp("speed refused", x -> x.speed(0, 21), NUMBER);
        staysUp("speed of no weaver", x -> x.speed(3, 1), NUMBER);
        staysUp("face refused", x -> x.face(4, 0, true), NUMBER);
        staysUp("dye", x -> x.dye(0, 1), 3);
        staysUp("S", x -> x.rule(0, 5), 1);
        staysUp("G", x -> x.rule(1, 5), 2);
        staysUp("share", x -> x.share(1), 3);
        staysUp("who", x -> x.who(3), 1);
        staysUp("days", x -> x.days(100), 3);
        staysUp("unweave", x -> x.unweave(0, 2), 0);
        staysUp("keep", x -> x.keep(), 1);
        WeftShop full = crowded();
        due("weaver, full", full.weaver(1, true), FULL);
        due("weaver, full: days go on", full.many(7), 1);
    }

    private static void takesDown(String name, Call call, int want) {
        WeftShop x = busy();
        due(name, call.on(x), want);
        due(name + ": days", x.days(1), DOWN);
        due(name + ": strips", x.many(5), 0);
        due(name + ": days since", x.many(7), 0);
    }

    private static void staysUp(String name, Call call, int want) {
        WeftShop x = busy();
        due(name, call.on(x), want);
        due(name + ": strips", x.many(5), 3);
        due(name + ": up", x.strip(2, 1), 3);
    }

    private static void strips() {
        sentence("Terms", "STRIPS (numbered from 0, from WARP 0 on) have DONE, 0 at first.");
        WeftShop x = facesAtBothEnds();
        x.up();
        stripsDue(x, 0, 1, 0, 2);
        stripsDue(x, 1, 0, 1, 2);
        stripsDue(x, 2, 1, 1, 1);
        stripsDue(x, 3, 0, 0, 0);
        x.days(1);
        stripsDue(x, 3, 2, 4, 2);
        x.up();
        stripsDue(x, 3, 0, 0, 0);
        x.days(1);
        x.speed(0, 4);
        x.up();
        stripsDue(x, 3, 0, 0, 0);
        WeftShop wide = fourAlike(10);
        wide.up();
        stripsDue(wide, 1, 0, 3, 6, 9);
        stripsDue(wide, 2, 3, 3, 3, 3);
        stripsDue(wide, 3, 0, 0, 0, 0);
    }

    private static void woven() {
        sentence("Terms", "Their SQUARES are in order of PICKS, then of WARPS; a SQUARE is WOVEN if WORK of those up to"
            + " it, and it, isn't above DONE.");
        WeftShop x = sized(3, 2);
        x.weaver(2, false);
        x.up();
        wovenDue(x, new int[] {0, 0, 0}, new int[] {0, 0, 0});
        x.days(1);
        wovenDue(x, new int[] {1, 1, 0}, new int[] {0, 0, 0});
        x.days(1);
        wovenDue(x, new int[] {1, 1, 1}, new int[] {1, 0, 0});
        x.days(1);
        wovenDue(x, new int[] {1, 1, 1}, new int[] {1, 1, 1});
        // work 1, 3, 1 at pick 0
        WeftShop faced = sized(3, 2);
        faced.weaver(1, true);
        faced.face(1, 0, true);
        faced.up();
        int[] wovenAfter = {0, 1, 1, 1, 2, 3, 4, 5, 6, 6};
        for (int day = 0; day < 10; day++) {
            int woven = wovenAfter[day];
            for (int place = 0; place < 6; place++) {
                due("place " + place + " after " + day, faced.woven(place % 3, place / 3), place < woven ? 1 : 0);
            }
            due("woven after " + day, faced.many(6), woven);
            faced.days(1);
        }
        // strips go each by its own: warps 0 and 1 by weaver 0, warps 2 and 3 by weaver 1
        WeftShop two = sized(4, 3);
        two.weaver(3, false);
        two.weaver(3, false);
        two.up();
        stripsDue(two, 2, 2, 2);
        two.days(1);
        wovenDue(two, new int[] {1, 1, 1, 1}, new int[] {1, 0, 1, 0}, new int[] {0, 0, 0, 0});
        two.unweave(0, 0);
        wovenDue(two, new int[] {0, 0, 1, 1}, new int[] {0, 0, 1, 0}, new int[] {0, 0, 0, 0});
    }

    private static void wholePicks() {
        sentence("Terms", "WHOLE PICKS of a STRIP: how many PICKS, from 0 on, all of whose SQUARES in it are WOVEN.");
        WeftShop x = sized(3, 3);
        x.weaver(1, true);
        x.face(0, 1, true);
        x.up();
        // work of picks: 3, 5, 3, the face last in its pick
        int[] whole = {0, 0, 0, 1, 1, 1, 1, 1, 2, 2, 2, 3, 3};
        for (int day = 0; day < whole.length; day++) {
            due("whole picks after " + day, x.strip(0, 5), whole[day]);
            x.days(1);
        }
        WeftShop ten = stripsOfOne(5, 5);
        ten.days(2);
        stripsDue(ten, 5, 10, 10);
        ten.unweave(1, 9);
        stripsDue(ten, 5, 10, 9);
        ten.unweave(1, 0);
        stripsDue(ten, 5, 10, 0);
    }

    private static void day() {
        sentence("Terms", "A DAY: each STRIP has SPEED more DONE (at most WORK of all its SQUARES), but for those that,"
            + " as the DAY begins, have G or more WHOLE PICKS more (G is 1 to 10; 10 at first) than some STRIP beside.");
        WeftShop x = stripsOfOne(3, 2, 3);
        due("G at first", x.rule(1, 2), 10);
        daysDue(x, 1, 3, 2, 3);
        daysDue(x, 1, 6, 4, 6);
        stripsDue(x, 6, 0, 1, 0);
        daysDue(x, 1, 6, 6, 6);
        stripsDue(x, 6, 1, 1, 1);
        x.unweave(1, 4);
        stripsDue(x, 6, 0, 1, 0);
        due("G is 3", x.rule(1, 3), 2);
        stripsDue(x, 6, 1, 1, 1);
        // both begin the day with less than 3 ahead, and the middle one gets on in it
        daysDue(x, 1, 9, 6, 9);
        daysDue(x, 1, 9, 8, 9);
        daysDue(x, 1, 10, 10, 10);
        daysDue(x, 1, 10, 10, 10);
        WeftShop one = stripsOfOne(3, 2, 3);
        due("G is 1", one.rule(1, 1), 10);
        daysDue(one, 1, 3, 2, 3);
        daysDue(one, 1, 3, 4, 3);
        daysDue(one, 1, 6, 4, 6);
        WeftShop beside = stripsOfOne(3, 3, 2);
        beside.rule(1, 2);
        daysDue(beside, 2, 6, 6, 4);
        daysDue(beside, 1, 9, 6, 6);
        WeftShop last = stripsOfOne(2, 3, 3);
        last.rule(1, 2);
        daysDue(last, 2, 4, 6, 6);
        daysDue(last, 1, 6, 6, 9);
        ofGreatG();
        ofWholePicksAlone();
    }

    private static void daysDue(WeftShop x, int n, int... done) {
        int fewest = 10;
        for (int each : done) {
            fewest = Math.min(fewest, each);
        }
        due("days(" + n + ")", x.days(n), fewest);
        stripsDue(x, 3, done);
    }

    private static void ofGreatG() {
        WeftShop x = stripsOfOne(3, 3);
        daysDue(x, 3, 9, 9);
        x.unweave(1, 0);
        stripsDue(x, 6, 1, 1);
        due("G of 11", x.rule(1, 11), NUMBER);
        due("G of 0", x.rule(1, 0), NUMBER);
        due("G is 9", x.rule(1, 9), 10);
        stripsDue(x, 6, 0, 1);
        daysDue(x, 1, 9, 3);
        daysDue(x, 1, 10, 6);
    }

    /** More DONE is not ahead until a pick is whole. */
    private static void ofWholePicksAlone() {
        WeftShop x = sized(4, 3);
        x.weaver(3, false);
        x.weaver(3, false);
        x.up();
        x.rule(1, 1);
        x.days(1);
        x.unweave(0, 1);
        stripsDue(x, 3, 2, 3);
        stripsDue(x, 6, 1, 1);
        x.unweave(0, 0);
        stripsDue(x, 6, 1, 0);
    }

    // ---- refusals

    private static void refusedChangesNothing() {
        sentence("Terms", "A call that is refused (answers below 0, where not told otherwise) changes nothing.");
        refuses(SentenceTest::busy, NUMBER, "size", x -> x.size(12, 11));
        refuses(SentenceTest::busy, NUMBER, "size", x -> x.size(13, 10));
        refuses(SentenceTest::busy, NUMBER, "paint", x -> x.paint(0, 0, 4, 4, 5));
        refuses(SentenceTest::busy, NUMBER, "paint", x -> x.paint(0, 0, 5, 3, 5));
        refuses(SentenceTest::busy, NUMBER, "paint", x -> x.paint(0, 0, 4, 3, 8));
        refuses(SentenceTest::busy, NUMBER, "face", x -> x.face(0, 3, true));
        refuses(SentenceTest::busy, NUMBER, "rule", x -> x.rule(0, 11));
        refuses(SentenceTest::busy, NUMBER, "rule", x -> x.rule(1, 0));
        refuses(SentenceTest::busy, NUMBER, "dye", x -> x.dye(0, 301));
        refuses(SentenceTest::crowded, FULL, "dye", x -> x.dye(0, 300));
        refuses(SentenceTest::busy, NUMBER, "weaver", x -> x.weaver(0, true));
        refuses(SentenceTest::crowded, FULL, "weaver", x -> x.weaver(20, true));
        refuses(SentenceTest::busy, NUMBER, "speed", x -> x.speed(0, 0));
        refuses(SentenceTest::busy, NUMBER, "speed", x -> x.speed(3, 5));
        refuses(WeftShop::new, NONE, "up", x -> x.up());
        refuses(SentenceTest::busy, NUMBER, "days", x -> x.days(101));
        refuses(SentenceTest::idle, DOWN, "days", x -> x.days(1));
        refuses(SentenceTest::busy, NUMBER, "unweave", x -> x.unweave(0, 3));
        refuses(SentenceTest::busy, NUMBER, "unweave", x -> x.unweave(3, 0));
        refuses(SentenceTest::idle, DOWN, "unweave", x -> x.unweave(0, 0));
        refuses(SentenceTest::crowded, NONE, "back", x -> x.back());
    }

    private static void firstRefusal() {
        sentence("Terms", "Of several refusals that a call names the first one named is answered.");
        WeftShop full = crowded();
        due("dye: NUMBER, then FULL", full.dye(8, 1), NUMBER);
        due("dye: NUMBER, then FULL", full.dye(0, 0), NUMBER);
        due("weaver: NUMBER, then FULL", full.weaver(21, false), NUMBER);
        WeftShop big = specks(9);
        for (int lot = 0; lot < 5; lot++) {
            big.dye(2, 1);
        }
        due("lot: NUMBER, then BIG", big.lot(5, 2), NUMBER);
        due("lot: NUMBER, then BIG", big.lot(0, 3), NUMBER);
        due("deal: NUMBER, then BIG", big.deal(99), NUMBER);
        due("deal: BIG, then NONE", big.deal(big.field(11, 0)), BIG);
        due("dealt: NUMBER, then BIG", big.dealt(1, 3), NUMBER);
        due("dealt: NUMBER, then BIG", big.dealt(8, 0), NUMBER);
        WeftShop empty = new WeftShop();
        due("share: NUMBER, then NONE", empty.share(2), NUMBER);
        due("who: NUMBER, then NONE", empty.who(1), NUMBER);
        due("days: NUMBER, then DOWN", empty.days(0), NUMBER);
        due("days: NUMBER, then DOWN", empty.days(101), NUMBER);
        due("strip: DOWN, then NUMBER", empty.strip(-1, 0), DOWN);
        due("strip: DOWN, then NUMBER", empty.strip(0, 7), DOWN);
        due("woven: DOWN, then NUMBER", empty.woven(1, 0), DOWN);
        due("woven: DOWN, then NUMBER", empty.woven(0, -1), DOWN);
        due("unweave: DOWN, then NUMBER", empty.unweave(9, 0), DOWN);
        due("unweave: DOWN, then NUMBER", empty.unweave(0, 9), DOWN);
    }

    // ---- constants

    private static void constants() {
        sentence("Terms", "The constants: `NUMBER = -1`: A number is none, or none that may be.");
        due("NUMBER", WeftShop.NUMBER, -1);
        due("a number that is none", new WeftShop().lot(0, 0), WeftShop.NUMBER);
        due("a number that may not be", new WeftShop().dye(0, 301), WeftShop.NUMBER);
        sentence("Terms", "`FULL = -2`: There are as many as may be.");
        due("FULL", WeftShop.FULL, -2);
        due("12 lots", crowded().dye(0, 1), WeftShop.FULL);
        due("4 weavers", crowded().weaver(1, false), WeftShop.FULL);
        sentence("Terms", "`DOWN = -3`: THE LOOM is DOWN.");
        due("DOWN", WeftShop.DOWN, -3);
        due("days", idle().days(1), WeftShop.DOWN);
        due("strip", idle().strip(0, 0), WeftShop.DOWN);
        due("woven", idle().woven(0, 0), WeftShop.DOWN);
        due("unweave", idle().unweave(0, 0), WeftShop.DOWN);
        sentence("Terms", "`NONE = -4`: There is none.");
        due("NONE", WeftShop.NONE, -4);
        due("no lot", new WeftShop().deal(0), WeftShop.NONE);
        due("no sharing", new WeftShop().share(0), WeftShop.NONE);
        due("nothing kept", new WeftShop().back(), WeftShop.NONE);
        big();
    }

    private static void big() {
        sentence("Terms", "`BIG = -5`: More FIELDS than 8, or LOTS than 4, of one COLOUR.");
        due("BIG", WeftShop.BIG, -5);
        due("8 fields", specks(8).dealt(1, 2), 8);
        due("9 fields", specks(9).dealt(1, 2), BIG);
        due("9 fields of one colour, 1 of another", specks(9).dealt(0, 2), 1);
        WeftShop x = specks(8);
        for (int lot = 0; lot < 4; lot++) {
            x.dye(0, 1);
            x.dye(1, 6);
        }
        due("8 fields, 4 lots, though there are 8 of two colours", x.dealt(1, 1), 4);
        x.dye(0, 1);
        due("5 lots", x.dealt(0, 0), BIG);
        due("4 lots still", x.dealt(1, 1), 4);
        WeftShop none = specks(0);
        for (int lot = 0; lot < 5; lot++) {
            due("lots of a colour without fields", none.dealt(7, 2), 0);
            none.dye(7, 1);
        }
        due("5 lots of a colour without fields", none.dealt(7, 2), BIG);
        WeftShop both = specks(9);
        for (int lot = 0; lot < 5; lot++) {
            both.dye(1, 300);
        }
        due("9 fields and 5 lots", both.dealt(1, 0), BIG);
    }
}
