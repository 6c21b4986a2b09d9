import java.util.ArrayList;
import java.util.Arrays;
import java.util.List;
import java.util.Random;
import java.util.TreeSet;

/**
 * Random runs of calls, each answer against a model that follows the document's words as plainly
 * and as slowly as can be: every dealing and every sharing is written out and compared.
 */
public final class ModelTest {
    private static final int RUNS = 150;
    private static final int DEALINGS = 400;
    private static final int CALLS = 500;
    private static final int[] EXTREMES = {Integer.MIN_VALUE, -1, 0, 13, 301, Integer.MAX_VALUE};

    private static int wrong = 0;
    private static int asked = 0;
    private static final int[] answers = new int[26];
    private static final int[] refusals = new int[26];

    public static void main(String[] args) {
        for (int run = 0; run < RUNS && wrong < 10; run++) {
            play(run, new Random(run * 7919L + 17));
        }
        for (int run = 0; run < DEALINGS && wrong < 10; run++) {
            playDealing(run, new Random(run * 104729L + 5));
        }
        for (int call = 0; call < answers.length; call++) {
            if (answers[call] == 0 || (refusals[call] == 0 && call != KEEP)) {
                wrong++;
                System.out.println("the runs never saw call " + call + " answered, or refused");
            }
        }
        System.out.println("ModelTest: " + asked + " answers, " + wrong + " not as due");
        if (wrong != 0) {
            System.exit(1);
        }
    }

    private static final int SIZE = 0, PAINT = 1, FACE = 2, CARTOON = 3, LOOM = 4, RULE = 5, SLITS = 6, SLIT = 7,
        FIELD = 8, OF = 9, DYE = 10, LOT = 11, DEAL = 12, DEALT = 13, WEAVER = 14, SPEED = 15, SHARE = 16,
        WHO = 17, UP = 18, DAYS = 19, STRIP = 20, WOVEN = 21, UNWEAVE = 22, MANY = 23, KEEP = 24, BACK = 25;
    private static final int[] OFTEN = {1, 14, 4, 4, 4, 3, 6, 6, 6, 8, 6, 8, 10, 10, 3, 2, 6, 8, 10, 14, 16, 12, 4, 14, 2, 2};

    private static void play(int run, Random random) {
        WeftShop shop = new WeftShop();
        Model model = new Model();
        int mood = random.nextInt(4);
        StringBuilder story = new StringBuilder();
        for (int turn = 0; turn < CALLS; turn++) {
            int call = turn == 0 ? SIZE : pick(random, mood, turn);
            if (!ask(shop, model, story, call, arguments(random, model, call, mood))) {
                System.out.println("in run " + run);
                return;
            }
        }
    }

    private static boolean ask(WeftShop shop, Model model, StringBuilder story, int call, int... a) {
        int want = model.answer(call, a);
        int got = answer(shop, call, a);
        asked++;
        answers[call] += want >= 0 ? 1 : 0;
        refusals[call] += want < 0 ? 1 : 0;
        story.append(call).append(Arrays.toString(a)).append(" = ").append(want).append('\n');
        if (got != want) {
            wrong++;
            System.out.println(story + "answered " + got);
        }
        return got == want;
    }

    /** Some 8 fields of colour 1 and lots that don't suffice, so that much hangs on how they are dealt. */
    private static void playDealing(int run, Random random) {
        WeftShop shop = new WeftShop();
        Model model = new Model();
        StringBuilder story = new StringBuilder();
        boolean same = ask(shop, model, story, SIZE, 12, 9 + random.nextInt(2));
        int longest = 2 + random.nextInt(4);
        int bars = 4 + random.nextInt(5);
        int column = 0;
        int row = random.nextInt(2);
        for (int bar = 0; bar < bars; bar++) {
            int length = 1 + random.nextInt(longest);
            if (column + length > 12) {
                column = 0;
                row += 2;
            }
            same &= ask(shop, model, story, PAINT, column, row, length, 1, 1);
            column += length + 1;
        }
        int lots = 1 + random.nextInt(4);
        for (int lot = 0; lot < lots; lot++) {
            same &= ask(shop, model, story, DYE, 1, 6 + random.nextInt(8 * longest));
            same &= random.nextInt(3) > 0 || ask(shop, model, story, DYE, 0, 1 + random.nextInt(300));
        }
        for (int field = 0; field < 12; field++) {
            same &= ask(shop, model, story, DEAL, field);
            same &= ask(shop, model, story, LOT, field, 2);
        }
        for (int what = 0; what < 3; what++) {
            same &= ask(shop, model, story, DEALT, 1, what);
        }
        if (!same) {
            System.out.println("in dealing " + run);
        }
    }

    private static int pick(Random random, int mood, int turn) {
        int sum = 0;
        for (int often : OFTEN) {
            sum += often;
        }
        int at = random.nextInt(sum);
        int call = 0;
        while (at >= OFTEN[call]) {
            at -= OFTEN[call];
            call++;
        }
        // once the loom is up, let it be for long enough to weave
        boolean upsets = call == SIZE || call == PAINT || call == WEAVER || call == SPEED || call == FACE;
        boolean late = mood == 1 && turn > 40 || mood == 2 && turn % 60 > 15;
        return upsets && late && random.nextInt(12) > 0 ? DAYS : call;
    }

    private static int[] arguments(Random random, Model m, int call, int mood) {
        int[] a = new int[5];
        for (int i = 0; i < 5; i++) {
            a[i] = argument(random, m, call, i, mood);
            if (random.nextInt(60) == 0) {
                a[i] = random.nextInt(3) == 0 ? EXTREMES[random.nextInt(EXTREMES.length)] : random.nextInt(16) - 2;
            }
        }
        if (call == PAINT && random.nextInt(10) > 0) {
            a[2] = 1 + random.nextInt(Math.max(1, Math.min(mood == 3 ? 2 : 6, m.columns - Math.max(0, Math.min(11, a[0])))));
            a[3] = 1 + random.nextInt(Math.max(1, Math.min(mood == 3 ? 2 : 6, m.rows - Math.max(0, Math.min(9, a[1])))));
        }
        return a;
    }

    private static int argument(Random random, Model m, int call, int i, int mood) {
        int across = random.nextInt(m.columns + (random.nextInt(30) == 0 ? 1 : 0));
        int along = random.nextInt(m.rows + (random.nextInt(30) == 0 ? 1 : 0));
        int colour = random.nextInt(mood == 3 ? 2 : 3) + (random.nextInt(20) == 0 ? 5 : 0);
        switch (call) {
            case SIZE:
                return i == 0 ? 1 + random.nextInt(12) : 1 + random.nextInt(10);
            case PAINT:
                return i == 0 ? across : i == 1 ? along : i == 4 ? colour : 1 + random.nextInt(4);
            case FACE:
                return i == 0 ? across : i == 1 ? along : random.nextInt(2);
            case RULE:
                return i == 0 ? random.nextInt(2) : random.nextInt(2) == 0 ? 1 + random.nextInt(3) : random.nextInt(11);
            case SLITS:
                return random.nextInt(4);
            case OF:
                return i == 0 ? random.nextInt(6) : random.nextInt(4);
            case DYE:
                return i == 0 ? colour : random.nextInt(3) == 0 ? 1 + random.nextInt(300) : 4 + random.nextInt(20);
            case LOT:
                return i == 0 ? random.nextInt(5) : random.nextInt(3);
            case DEAL:
                return random.nextInt(10);
            case DEALT:
                return i == 0 ? colour : random.nextInt(3);
            case WEAVER:
                return i == 0 ? 1 + random.nextInt(random.nextBoolean() ? 4 : 20) : random.nextInt(3) > 0 ? 1 : 0;
            case SPEED:
                return i == 0 ? random.nextInt(4) : 1 + random.nextInt(random.nextBoolean() ? 4 : 20);
            case SHARE:
                return random.nextInt(2);
            case DAYS:
                return random.nextInt(8) == 0 ? 1 + random.nextInt(100) : 1 + random.nextInt(3);
            case STRIP:
                return i == 0 ? random.nextInt(3) : random.nextInt(7);
            case UNWEAVE:
                return i == 0 ? random.nextInt(3) : along;
            case MANY:
                return random.nextInt(9);
            default:
                return i == 0 ? across : along;
        }
    }

    private static int answer(WeftShop x, int call, int[] a) {
        switch (call) {
            case SIZE: return x.size(a[0], a[1]);
            case PAINT: return x.paint(a[0], a[1], a[2], a[3], a[4]);
            case FACE: return x.face(a[0], a[1], a[2] > 0);
            case CARTOON: return x.cartoon(a[0], a[1]);
            case LOOM: return x.loom(a[0], a[1]);
            case RULE: return x.rule(a[0], a[1]);
            case SLITS: return x.slits(a[0]);
            case SLIT: return x.slit(a[0], a[1]);
            case FIELD: return x.field(a[0], a[1]);
            case OF: return x.of(a[0], a[1]);
            case DYE: return x.dye(a[0], a[1]);
            case LOT: return x.lot(a[0], a[1]);
            case DEAL: return x.deal(a[0]);
            case DEALT: return x.dealt(a[0], a[1]);
            case WEAVER: return x.weaver(a[0], a[1] > 0);
            case SPEED: return x.speed(a[0], a[1]);
            case SHARE: return x.share(a[0]);
            case WHO: return x.who(a[0]);
            case UP: return x.up();
            case DAYS: return x.days(a[0]);
            case STRIP: return x.strip(a[0], a[1]);
            case WOVEN: return x.woven(a[0], a[1]);
            case UNWEAVE: return x.unweave(a[0], a[1]);
            case MANY: return x.many(a[0]);
            case KEEP: return x.keep();
            default: return x.back();
        }
    }

    private record Strip(int weaver, int first, int width, int done) {
    }

    private record Square(int warp, int pick) {
    }

    private static final class Model {
        static final int NUMBER = -1, FULL = -2, DOWN = -3, NONE = -4, BIG = -5;

        int columns = 1;
        int rows = 1;
        int[][] colours = new int[1][1];
        boolean[][] faces = new boolean[1][1];
        List<int[]> lots = new ArrayList<>();
        List<Integer> speeds = new ArrayList<>();
        List<Boolean> masters = new ArrayList<>();
        List<Strip> strips = List.of();
        int days = 0;
        int s = 3;
        int g = 10;
        Model kept = null;

        static int[][] copy(int[][] rows) {
            int[][] out = new int[rows.length][];
            for (int i = 0; i < rows.length; i++) {
                out[i] = rows[i].clone();
            }
            return out;
        }

        void take(Model other) {
            columns = other.columns;
            rows = other.rows;
            colours = copy(other.colours);
            faces = new boolean[columns][];
            for (int c = 0; c < columns; c++) {
                faces[c] = other.faces[c].clone();
            }
            lots = new ArrayList<>(other.lots);
            speeds = new ArrayList<>(other.speeds);
            masters = new ArrayList<>(other.masters);
            strips = List.copyOf(other.strips);
            days = other.days;
        }

        int answer(int call, int[] a) {
            switch (call) {
                case SIZE: return size(a[0], a[1]);
                case PAINT: return paint(a[0], a[1], a[2], a[3], a[4]);
                case FACE: return face(a[0], a[1], a[2] > 0);
                case CARTOON: return square(a[0], a[1]) ? value(a[0], a[1]) : NUMBER;
                case LOOM: return square(a[0], a[1]) ? value(columns - 1 - a[0], a[1]) : NUMBER;
                case RULE: return rule(a[0], a[1]);
                case SLITS: return slits(a[0]);
                case SLIT: return square(a[0], a[1]) && square(a[0] + 1, a[1]) ? slit(a[0], a[1]).size() : NUMBER;
                case FIELD: return square(a[0], a[1]) ? fieldOf(a[0], a[1]) : NUMBER;
                case OF: return of(a[0], a[1]);
                case DYE: return dye(a[0], a[1]);
                case LOT: return lot(a[0], a[1]);
                case DEAL: return deal(a[0]);
                case DEALT: return dealt(a[0], a[1]);
                case WEAVER: return weaver(a[0], a[1] > 0);
                case SPEED: return speed(a[0], a[1]);
                case SHARE: return share(a[0]);
                case WHO: return who(a[0]);
                case UP: return up();
                case DAYS: return days(a[0]);
                case STRIP: return strip(a[0], a[1]);
                case WOVEN: return strips.isEmpty() ? DOWN : !square(a[0], a[1]) ? NUMBER : woven(a[0], a[1]) ? 1 : 0;
                case UNWEAVE: return unweave(a[0], a[1]);
                case MANY: return many(a[0]);
                case KEEP:
                    kept = new Model();
                    kept.take(this);
                    return 1;
                default:
                    if (kept == null) {
                        return NONE;
                    }
                    take(kept);
                    return 1;
            }
        }

        boolean square(int across, int along) {
            return across >= 0 && across < columns && along >= 0 && along < rows;
        }

        int value(int c, int r) {
            return colours[c][r] + (faces[c][r] ? 8 : 0);
        }

        int colour(int warp, int pick) {
            return colours[columns - 1 - warp][pick];
        }

        int work(int warp, int pick) {
            return faces[columns - 1 - warp][pick] ? 3 : 1;
        }

        void down() {
            strips = List.of();
            days = 0;
        }

        int size(int c, int r) {
            if (c < 1 || c > 12 || r < 1 || r > 10) {
                return NUMBER;
            }
            columns = c;
            rows = r;
            colours = new int[c][r];
            faces = new boolean[c][r];
            down();
            return c * r;
        }

        int paint(int c, int r, int w, int h, int colour) {
            if (w < 1 || h < 1 || c < 0 || r < 0 || (long) c + w > columns || (long) r + h > rows || colour < 0 || colour > 7) {
                return NUMBER;
            }
            int count = 0;
            for (int i = 0; i < columns; i++) {
                for (int j = 0; j < rows; j++) {
                    if (c <= i && i < c + w && r <= j && j < r + h) {
                        colours[i][j] = colour;
                        count++;
                    }
                }
            }
            down();
            return count;
        }

        int face(int c, int r, boolean is) {
            if (!square(c, r)) {
                return NUMBER;
            }
            if (faces[c][r] == is) {
                return 0;
            }
            faces[c][r] = is;
            down();
            return 1;
        }

        int rule(int what, int v) {
            if (what < 0 || what > 1 || v < what || v > 10) {
                return NUMBER;
            }
            int was = what == 0 ? s : g;
            s = what == 0 ? v : s;
            g = what == 1 ? v : g;
            return was;
        }

        List<Integer> slit(int warp, int pick) {
            List<Integer> picks = new ArrayList<>();
            boolean holds = false;
            for (int p = 0; p <= rows; p++) {
                if (p < rows && colour(warp, p) != colour(warp + 1, p)) {
                    picks.add(p);
                    holds |= p == pick;
                } else if (holds) {
                    return picks;
                } else {
                    picks.clear();
                }
            }
            return picks;
        }

        int slits(int what) {
            int[] out = new int[4];
            for (int warp = 0; warp + 1 < columns; warp++) {
                for (int pick = 0; pick < rows; pick++) {
                    List<Integer> slit = slit(warp, pick);
                    if (!slit.isEmpty() && slit.get(0) == pick) {
                        out[0]++;
                        out[1] += slit.size() > s ? 1 : 0;
                        out[2] += slit.size() > s ? slit.size() : 0;
                        out[3] = Math.max(out[3], slit.size());
                    }
                }
            }
            return what < 0 || what > 3 ? NUMBER : out[what];
        }

        /** For each place the least place of its field. */
        int[] leasts() {
            int[] least = new int[columns * rows];
            for (int place = 0; place < least.length; place++) {
                least[place] = place;
            }
            boolean moved = true;
            while (moved) {
                moved = false;
                for (int place = 0; place < least.length; place++) {
                    for (Square beside : besides(place)) {
                        int other = beside.pick() * columns + beside.warp();
                        boolean same = colour(beside.warp(), beside.pick()) == colour(place % columns, place / columns);
                        if (same && least[other] < least[place]) {
                            least[place] = least[other];
                            moved = true;
                        }
                    }
                }
            }
            return least;
        }

        List<Square> besides(int place) {
            List<Square> out = new ArrayList<>(4);
            int[][] ways = {{-1, 0}, {1, 0}, {0, -1}, {0, 1}};
            for (int[] way : ways) {
                if (square(place % columns + way[0], place / columns + way[1])) {
                    out.add(new Square(place % columns + way[0], place / columns + way[1]));
                }
            }
            return out;
        }

        List<Integer> fields() {
            TreeSet<Integer> out = new TreeSet<>();
            for (int least : leasts()) {
                out.add(least);
            }
            return new ArrayList<>(out);
        }

        int fieldOf(int warp, int pick) {
            return fields().indexOf(leasts()[pick * columns + warp]);
        }

        int of(int field, int what) {
            List<Integer> fields = fields();
            if (field < 0 || field >= fields.size() || what < 0 || what > 3) {
                return NUMBER;
            }
            int least = fields.get(field);
            int[] leasts = leasts();
            int area = 0;
            int sides = 0;
            for (int place = 0; place < leasts.length; place++) {
                if (leasts[place] == least) {
                    area++;
                    for (Square beside : besides(place)) {
                        sides += leasts[beside.pick() * columns + beside.warp()] != least ? 1 : 0;
                    }
                }
            }
            int[] out = {colour(least % columns, least / columns), area, 2 * area + sides, least};
            return out[what];
        }

        int dye(int colour, int yarn) {
            if (colour < 0 || colour > 7 || yarn < 1 || yarn > 300) {
                return NUMBER;
            }
            if (lots.size() == 12) {
                return FULL;
            }
            lots.add(new int[] {colour, yarn});
            return lots.size() - 1;
        }

        List<Integer> fieldsOf(int colour) {
            List<Integer> out = new ArrayList<>();
            List<Integer> fields = fields();
            for (int field = 0; field < fields.size(); field++) {
                int place = fields.get(field);
                if (colour(place % columns, place / columns) == colour) {
                    out.add(field);
                }
            }
            return out;
        }

        List<Integer> lotsOf(int colour) {
            List<Integer> out = new ArrayList<>();
            for (int lot = 0; lot < lots.size(); lot++) {
                if (lots.get(lot)[0] == colour) {
                    out.add(lot);
                }
            }
            return out;
        }

        int bestYarn;
        int[] bestGifts;

        /** What each field of a colour gets (99: none); null: too many. */
        int[] dealing(int colour) {
            List<Integer> mine = fieldsOf(colour);
            List<Integer> ours = lotsOf(colour);
            if (mine.size() > 8 || ours.size() > 4) {
                return null;
            }
            int[] yarns = new int[mine.size()];
            for (int i = 0; i < yarns.length; i++) {
                yarns[i] = of(mine.get(i), 2);
            }
            bestYarn = -1;
            bestGifts = null;
            int[] left = new int[12];
            for (int lot : ours) {
                left[lot] = lots.get(lot)[1];
            }
            tryGifts(yarns, ours, left, new int[yarns.length], 0, 0);
            return bestGifts;
        }

        void tryGifts(int[] yarns, List<Integer> ours, int[] left, int[] gifts, int i, int yarn) {
            if (i == yarns.length) {
                if (yarn > bestYarn || yarn == bestYarn && before(gifts, bestGifts)) {
                    bestYarn = yarn;
                    bestGifts = gifts.clone();
                }
                return;
            }
            gifts[i] = 99;
            tryGifts(yarns, ours, left, gifts, i + 1, yarn);
            for (int lot : ours) {
                if (left[lot] >= yarns[i]) {
                    gifts[i] = lot;
                    left[lot] -= yarns[i];
                    tryGifts(yarns, ours, left, gifts, i + 1, yarn + yarns[i]);
                    left[lot] += yarns[i];
                }
            }
        }

        static boolean before(int[] one, int[] other) {
            for (int i = 0; i < one.length; i++) {
                if (one[i] != other[i]) {
                    return one[i] < other[i];
                }
            }
            return false;
        }

        int lot(int lot, int what) {
            if (lot < 0 || lot >= lots.size() || what < 0 || what > 2) {
                return NUMBER;
            }
            if (what < 2) {
                return lots.get(lot)[what];
            }
            int[] gifts = dealing(lots.get(lot)[0]);
            if (gifts == null) {
                return BIG;
            }
            int sum = 0;
            for (int i = 0; i < gifts.length; i++) {
                sum += gifts[i] == lot ? of(fieldsOf(lots.get(lot)[0]).get(i), 2) : 0;
            }
            return sum;
        }

        int deal(int field) {
            if (field < 0 || field >= fields().size()) {
                return NUMBER;
            }
            int colour = of(field, 0);
            int[] gifts = dealing(colour);
            if (gifts == null) {
                return BIG;
            }
            int gift = gifts[fieldsOf(colour).indexOf(field)];
            return gift == 99 ? NONE : gift;
        }

        int dealt(int colour, int what) {
            if (colour < 0 || colour > 7 || what < 0 || what > 2) {
                return NUMBER;
            }
            int[] gifts = dealing(colour);
            if (gifts == null) {
                return BIG;
            }
            int with = 0;
            for (int gift : gifts) {
                with += gift != 99 ? 1 : 0;
            }
            return what == 0 ? bestYarn : what == 1 ? with : gifts.length - with;
        }

        int weaver(int speed, boolean master) {
            if (speed < 1 || speed > 20) {
                return NUMBER;
            }
            if (speeds.size() == 4) {
                return FULL;
            }
            speeds.add(speed);
            masters.add(master);
            down();
            return speeds.size() - 1;
        }

        int speed(int weaver, int speed) {
            if (weaver < 0 || weaver >= speeds.size() || speed < 1 || speed > 20) {
                return NUMBER;
            }
            down();
            return speeds.set(weaver, speed);
        }

        List<Strip> sharing;

        /** The best of all ways to cut the warps and all orders of weavers; null: none. */
        List<Strip> share() {
            sharing = null;
            for (int cuts = 0; cuts < 1 << columns - 1; cuts++) {
                if (Integer.bitCount(cuts) < speeds.size()) {
                    tryWeavers(cuts, new ArrayList<>());
                }
            }
            return sharing;
        }

        void tryWeavers(int cuts, List<Strip> soFar) {
            int first = soFar.isEmpty() ? 0 : soFar.get(soFar.size() - 1).first() + soFar.get(soFar.size() - 1).width();
            if (first == columns) {
                if (sharing == null || better(soFar, sharing)) {
                    sharing = new ArrayList<>(soFar);
                }
                return;
            }
            int end = first + 1;
            while (end < columns && (cuts >> end - 1 & 1) == 0) {
                end++;
            }
            for (int weaver = 0; weaver < speeds.size(); weaver++) {
                Strip next = new Strip(weaver, first, end - first, 0);
                int mine = weaver;
                boolean free = soFar.stream().noneMatch(strip -> strip.weaver() == mine);
                boolean faced = squares(next).stream().anyMatch(q -> work(q.warp(), q.pick()) == 3);
                if (free && (!faced || masters.get(weaver))) {
                    soFar.add(next);
                    tryWeavers(cuts, soFar);
                    soFar.remove(soFar.size() - 1);
                }
            }
        }

        List<Square> squares(Strip strip) {
            List<Square> out = new ArrayList<>();
            for (int pick = 0; pick < rows; pick++) {
                for (int warp = strip.first(); warp < strip.first() + strip.width(); warp++) {
                    out.add(new Square(warp, pick));
                }
            }
            return out;
        }

        int workOf(Strip strip) {
            int sum = 0;
            for (Square square : squares(strip)) {
                sum += work(square.warp(), square.pick());
            }
            return sum;
        }

        int daysOf(List<Strip> some) {
            int most = 0;
            for (Strip strip : some) {
                int needed = 0;
                while (needed * speeds.get(strip.weaver()) < workOf(strip)) {
                    needed++;
                }
                most = Math.max(most, needed);
            }
            return most;
        }

        boolean better(List<Strip> one, List<Strip> other) {
            int order = Integer.compare(daysOf(one), daysOf(other));
            if (order == 0) {
                order = Integer.compare(one.size(), other.size());
            }
            for (int i = 0; order == 0 && i < one.size(); i++) {
                order = Integer.compare(one.get(i).weaver(), other.get(i).weaver());
                if (order == 0) {
                    order = Integer.compare(one.get(i).width(), other.get(i).width());
                }
            }
            return order < 0;
        }

        int share(int what) {
            if (what < 0 || what > 1) {
                return NUMBER;
            }
            List<Strip> best = share();
            return best == null ? NONE : what == 0 ? daysOf(best) : best.size();
        }

        int who(int warp) {
            if (warp < 0 || warp >= columns) {
                return NUMBER;
            }
            List<Strip> best = share();
            return best == null ? NONE : stripAt(best, warp).weaver();
        }

        Strip stripAt(List<Strip> some, int warp) {
            for (Strip strip : some) {
                if (strip.first() <= warp && warp < strip.first() + strip.width()) {
                    return strip;
                }
            }
            return null;
        }

        int up() {
            List<Strip> best = share();
            if (best == null) {
                return NONE;
            }
            strips = best;
            days = 0;
            return best.size();
        }

        boolean woven(int warp, int pick) {
            Strip strip = stripAt(strips, warp);
            int sum = 0;
            for (Square square : squares(strip)) {
                sum += work(square.warp(), square.pick());
                if (square.warp() == warp && square.pick() == pick) {
                    return sum <= strip.done();
                }
            }
            return false;
        }

        int whole(Strip strip) {
            for (int pick = 0; pick < rows; pick++) {
                for (int warp = strip.first(); warp < strip.first() + strip.width(); warp++) {
                    if (!woven(warp, pick)) {
                        return pick;
                    }
                }
            }
            return rows;
        }

        boolean held(int strip) {
            boolean held = false;
            for (int other = 0; other < strips.size(); other++) {
                held |= Math.abs(other - strip) == 1 && whole(strips.get(strip)) >= whole(strips.get(other)) + g;
            }
            return held;
        }

        int days(int n) {
            if (n < 1 || n > 100) {
                return NUMBER;
            }
            if (strips.isEmpty()) {
                return DOWN;
            }
            for (int day = 0; day < n; day++) {
                List<Strip> next = new ArrayList<>();
                for (int i = 0; i < strips.size(); i++) {
                    Strip strip = strips.get(i);
                    int more = held(i) ? 0 : speeds.get(strip.weaver());
                    next.add(new Strip(strip.weaver(), strip.first(), strip.width(), Math.min(workOf(strip), strip.done() + more)));
                }
                strips = next;
                days++;
            }
            int fewest = rows;
            for (Strip strip : strips) {
                fewest = Math.min(fewest, whole(strip));
            }
            return fewest;
        }

        int strip(int number, int what) {
            if (strips.isEmpty()) {
                return DOWN;
            }
            if (number < 0 || number >= strips.size() || what < 0 || what > 6) {
                return NUMBER;
            }
            Strip strip = strips.get(number);
            int goes = !held(number) && strip.done() < workOf(strip) ? 1 : 0;
            int[] out = {strip.weaver(), strip.first(), strip.width(), strip.done(), workOf(strip), whole(strip), goes};
            return out[what];
        }

        int unweave(int number, int pick) {
            if (strips.isEmpty()) {
                return DOWN;
            }
            if (number < 0 || number >= strips.size() || pick < 0 || pick >= rows) {
                return NUMBER;
            }
            Strip strip = strips.get(number);
            int sum = 0;
            for (Square square : squares(strip)) {
                sum += square.pick() < pick ? work(square.warp(), square.pick()) : 0;
            }
            if (strip.done() <= sum) {
                return 0;
            }
            strips = new ArrayList<>(strips);
            strips.set(number, new Strip(strip.weaver(), strip.first(), strip.width(), sum));
            return strip.done() - sum;
        }

        int many(int what) {
            int woven = 0;
            int faced = 0;
            for (int warp = 0; warp < columns; warp++) {
                for (int pick = 0; pick < rows; pick++) {
                    woven += !strips.isEmpty() && woven(warp, pick) ? 1 : 0;
                    faced += work(warp, pick) == 3 ? 1 : 0;
                }
            }
            int[] out = {columns, rows, fields().size(), lots.size(), speeds.size(), strips.size(), woven, days, faced};
            return what < 0 || what >= out.length ? NUMBER : out[what];
        }
    }
}
