import java.io.IOException;
import java.nio.file.Files;
import java.nio.file.Path;
import java.util.ArrayList;
import java.util.LinkedHashMap;
import java.util.LinkedHashSet;
import java.util.List;
import java.util.Map;
import java.util.Set;

/**
 * What the tests of the document's sentences share. Each test begins with the sentence that it is
 * for, word by word, so that end() can tell which sentences of the document have no test.
 */
abstract class SentenceTest {
    static final int NUMBER = -1;
    static final int FULL = -2;
    static final int DOWN = -3;
    static final int NONE = -4;
    static final int BIG = -5;
    static final int LOW = Integer.MIN_VALUE;
    static final int HIGH = Integer.MAX_VALUE;

    private static final Path DOCUMENT = Path.of("../shared/DOC.md");
    private static final int MOST_CALLS = 512;
    private static final int CALLS_OF_A_SHOP = 60;

    private static final Map<String, Integer> asked = new LinkedHashMap<>();
    private static String about = "no sentence";
    private static int wrong = 0;

    interface Call {
        int on(WeftShop x);
    }

    interface Maker {
        WeftShop make();
    }

    static void sentence(String section, String words) {
        about = section + ": " + words;
        if (asked.put(about, 0) != null) {
            complain("two tests for one sentence");
        }
    }

    static void due(String call, int got, int want) {
        asked.merge(about, 1, Integer::sum);
        if (got != want) {
            complain(call + " answered " + got + ", due is " + want);
        }
    }

    private static void complain(String words) {
        wrong++;
        System.out.println(about + "\n    " + words);
    }

    /** The call answers so, and leaves the shop as it leaves a twin that was never called. */
    static void refuses(Maker maker, int want, String name, Call call) {
        WeftShop x = maker.make();
        due(name, call.on(x), want);
        List<Integer> told = tellAll(x);
        List<Integer> twins = tellAll(maker.make());
        due(name + ", what it changes", firstUnlike(told, twins), -1);
    }

    private static int firstUnlike(List<Integer> one, List<Integer> other) {
        for (int i = 0; i < Math.max(one.size(), other.size()); i++) {
            if (i >= one.size() || i >= other.size() || !one.get(i).equals(other.get(i))) {
                return i;
            }
        }
        return -1;
    }

    /** All that can be asked; then S, G, the next day, the weavers and what is kept, which show by changes alone. */
    private static List<Integer> tellAll(WeftShop x) {
        List<Integer> told = new ArrayList<>();
        tellWhatStands(x, told);
        told.add(x.rule(0, 3));
        told.add(x.rule(1, 10));
        told.add(x.days(1));
        tellLoom(x, told);
        tellWeavers(x, told);
        told.add(x.back());
        tellWhatStands(x, told);
        tellWeavers(x, told);
        if (told.size() > MOST_CALLS - CALLS_OF_A_SHOP) {
            complain("a shop that takes " + told.size() + " calls to tell");
        }
        return told;
    }

    private static void tellWhatStands(WeftShop x, List<Integer> told) {
        for (int what = 0; what < 9; what++) {
            told.add(x.many(what));
        }
        int columns = x.many(0);
        int squares = columns * x.many(1);
        for (int place = 0; place < squares; place++) {
            told.add(x.cartoon(place % columns, place / columns));
        }
        int lots = x.many(3);
        for (int lot = 0; lot < lots; lot++) {
            told.add(x.lot(lot, 0));
            told.add(x.lot(lot, 1));
        }
        for (int what = 0; what < 4; what++) {
            told.add(x.slits(what));
        }
        for (int colour = 0; colour < 3; colour++) {
            told.add(x.dealt(colour, 0));
        }
        tellLoom(x, told);
    }

    private static void tellLoom(WeftShop x, List<Integer> told) {
        told.add(x.share(0));
        told.add(x.share(1));
        int strips = x.many(5);
        for (int i = 0; i < 7 * strips; i++) {
            told.add(x.strip(i / 7, i % 7));
        }
    }

    /** Speeds by what they were; masters by who gets a face that the fastest is to have. */
    private static void tellWeavers(WeftShop x, List<Integer> told) {
        for (int weaver = 0; weaver < 4; weaver++) {
            told.add(x.speed(weaver, 1));
        }
        told.add(x.size(1, 1));
        told.add(x.face(0, 0, true));
        for (int weaver = 0; weaver < 4; weaver++) {
            told.add(x.speed(weaver, 20));
            told.add(x.who(0));
            told.add(x.speed(weaver, 1));
        }
    }

    // ---- shops

    static WeftShop sized(int columns, int rows) {
        WeftShop x = new WeftShop();
        due("size(" + columns + ", " + rows + ")", x.size(columns, rows), columns * rows);
        return x;
    }

    /** THE LOOM is SET UP with three STRIPS, two of them at work; another loom is kept. */
    static WeftShop busy() {
        WeftShop x = new WeftShop();
        x.size(4, 3);
        x.paint(0, 0, 2, 2, 1);
        x.face(1, 1, true);
        x.dye(1, 20);
        x.dye(0, 30);
        x.weaver(2, true);
        x.weaver(3, false);
        x.up();
        x.days(1);
        x.keep();
        x.paint(3, 2, 1, 1, 2);
        x.face(2, 0, true);
        x.dye(2, 7);
        x.weaver(1, true);
        x.rule(0, 1);
        x.rule(1, 2);
        x.up();
        x.days(2);
        return x;
    }

    /** As busy(), but THE LOOM is DOWN. */
    static WeftShop idle() {
        WeftShop x = busy();
        x.speed(0, 4);
        return x;
    }

    /** 12 LOTS, 4 WEAVERS, and THE LOOM is SET UP. */
    static WeftShop crowded() {
        WeftShop x = new WeftShop();
        x.size(4, 2);
        for (int lot = 0; lot < 12; lot++) {
            x.dye(lot % 3, 10 + lot);
        }
        for (int weaver = 0; weaver < 4; weaver++) {
            x.weaver(1 + weaver, weaver % 2 == 0);
        }
        x.up();
        x.days(1);
        return x;
    }

    /** 120 FIELDS of a SQUARE each, of COLOURS 0 and 1 by turns. */
    static WeftShop checkered() {
        WeftShop x = sized(12, 10);
        for (int place = 0; place < 120; place++) {
            if ((place % 12 + place / 12) % 2 == 1) {
                x.paint(place % 12, place / 12, 1, 1, 1);
            }
        }
        return x;
    }

    /** Four WEAVERS of one SPEED for a whole board of 12 by 10. */
    static WeftShop fourAlike(int speed) {
        WeftShop x = sized(12, 10);
        for (int weaver = 0; weaver < 4; weaver++) {
            due("weaver", x.weaver(speed, true), weaver);
        }
        return x;
    }

    static void faceAll(WeftShop x) {
        for (int place = 0; place < 120; place++) {
            due("face", x.face(place % 12, place / 12, true), 1);
        }
    }

    /** Single SQUARES of COLOUR 1, each a FIELD, every other one in rows 0, 2 and 4. */
    static WeftShop specks(int specks) {
        WeftShop x = sized(12, 5);
        for (int i = 0; i < specks; i++) {
            x.paint(i % 6 * 2, i / 6 * 2, 1, 1, 1);
        }
        return x;
    }

    /**
     * One row of 12; FIELDS 1, 3, 5 .. are of COLOUR 1, from WARP 1 on, a WARP of COLOUR 0 between
     * them: YARN of each is 2 for each WARP and 2 more for its two sides.
     */
    static WeftShop bars(int... lengths) {
        WeftShop x = sized(12, 1);
        int warp = 1;
        for (int length : lengths) {
            x.paint(12 - warp - length, 0, length, 1, 1);
            warp += length + 1;
        }
        return x;
    }

    /** MASTERS, who have a WARP of 10 each if none of them is much faster than another. */
    static WeftShop stripsOfOne(int... speeds) {
        WeftShop x = sized(speeds.length, 10);
        for (int speed : speeds) {
            x.weaver(speed, true);
        }
        due("up", x.up(), speeds.length);
        return x;
    }

    // ---- rows of answers

    static void dealDue(WeftShop x, int... want) {
        for (int i = 0; i < want.length; i++) {
            due("deal(" + (2 * i + 1) + ")", x.deal(2 * i + 1), want[i]);
        }
    }

    static void whoDue(WeftShop x, int... want) {
        due("columns", x.many(0), want.length);
        for (int warp = 0; warp < want.length; warp++) {
            due("who(" + warp + ")", x.who(warp), want[warp]);
        }
    }

    static void stripsDue(WeftShop x, int what, int... want) {
        due("strips", x.many(5), want.length);
        for (int strip = 0; strip < want.length; strip++) {
            due("strip(" + strip + ", " + what + ")", x.strip(strip, what), want[strip]);
        }
    }

    /** One row of answers for each pick. */
    static void wovenDue(WeftShop x, int[]... want) {
        for (int pick = 0; pick < want.length; pick++) {
            for (int warp = 0; warp < want[pick].length; warp++) {
                due("woven(" + warp + ", " + pick + ")", x.woven(warp, pick), want[pick][warp]);
            }
        }
    }

    // ---- the document

    static void end(String name, String... sections) throws IOException {
        int answers = 0;
        for (Map.Entry<String, Integer> entry : asked.entrySet()) {
            answers += entry.getValue();
            about = entry.getKey();
            if (entry.getValue() == 0) {
                complain("nothing was asked");
            }
        }
        if (Files.exists(DOCUMENT)) {
            compareWithDocument(sections);
        } else {
            System.out.println("the document isn't at " + DOCUMENT + ": its sentences are not compared");
        }
        System.out.println(name + ": " + asked.size() + " sentences, " + answers + " answers, " + wrong + " not as due");
        if (wrong != 0) {
            System.exit(1);
        }
    }

    private static void compareWithDocument(String... sections) throws IOException {
        Set<String> told = sentencesOfDocument(sections);
        for (String words : told) {
            about = words;
            if (!asked.containsKey(words)) {
                complain("no test is for this sentence of the document");
            }
        }
        for (String words : asked.keySet()) {
            about = words;
            if (!told.contains(words)) {
                complain("the document has no such sentence");
            }
        }
    }

    private static Set<String> sentencesOfDocument(String... sections) throws IOException {
        String text = Files.readString(DOCUMENT).replace("&lt;", "<").replaceAll("(?m)^```.*\n", "");
        Set<String> told = new LinkedHashSet<>();
        for (String part : text.split("(?m)^## ")) {
            String title = part.split("[:\n]", 2)[0];
            for (String section : sections) {
                if (title.equals(section) || section.equals("Promise") && title.matches("Promise \\d+")) {
                    addSentences(told, title, part.substring(part.indexOf('\n') + 1));
                }
            }
        }
        return told;
    }

    private static void addSentences(Set<String> told, String title, String text) {
        for (String paragraph : text.split("\n\\s*\n")) {
            String plain = paragraph.trim().replaceAll("\\s+", " ").replaceFirst("^\\d+\\. ", "");
            if (title.startsWith("Promise")) {
                plain = plain.replaceFirst("^`[^`]*`: ", "");
            }
            // what stands ahead of the calls is for the source, and LanguageTest looks at that
            if (plain.isEmpty() || plain.startsWith("Ahead of the calls")) {
                continue;
            }
            for (String words : plain.split("(?<=\\.)\\s|(?<=\\.\\))\\s")) {
                told.add(title + ": " + words);
            }
        }
    }
}
