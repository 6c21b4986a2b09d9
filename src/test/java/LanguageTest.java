import java.io.IOException;
import java.lang.reflect.Constructor;
import java.lang.reflect.Field;
import java.lang.reflect.Method;
import java.lang.reflect.Modifier;
import java.nio.file.Files;
import java.nio.file.Path;
import java.util.ArrayList;
import java.util.Arrays;
import java.util.List;
import java.util.Set;
import java.util.TreeSet;
import java.util.regex.Matcher;
import java.util.regex.Pattern;

/** The class's face as the document writes it, and those rules of LANGUAGE.md that a test can see. */
public final class LanguageTest {
    private static final Path SOURCE = Path.of("src/main/java/WeftShop.java");
    private static final Path DOCUMENT = Path.of("../shared/DOC.md");
    private static final String[] FACE = {
        "size(int,int)", "paint(int,int,int,int,int)", "face(int,int,boolean)", "cartoon(int,int)", "loom(int,int)",
        "rule(int,int)", "slits(int)", "slit(int,int)", "field(int,int)", "of(int,int)", "dye(int,int)",
        "lot(int,int)", "deal(int)", "dealt(int,int)", "weaver(int,boolean)", "speed(int,int)", "share(int)",
        "who(int)", "up()", "days(int)", "strip(int,int)", "woven(int,int)", "unweave(int,int)", "many(int)",
        "keep()", "back()"};
    private static final String[] CONSTANTS = {"NUMBER=-1", "FULL=-2", "DOWN=-3", "NONE=-4", "BIG=-5"};
    private static final String[] BANNED = {
        "throw", "throws", "try", "catch", "synchronized", "assert", "package", "protected", "transient", "volatile",
        "native", "instanceof", "Object", "Random", "Exception", "Error", "Thread", "Class", "hashCode", "toString"};

    private static int wrong = 0;

    private static void check(boolean holds, String rule) {
        if (!holds) {
            wrong++;
            System.out.println("broken: " + rule);
        }
    }

    public static void main(String[] args) throws IOException {
        face();
        constants();
        nested();
        String text = Files.readString(SOURCE);
        words(withoutComments(text));
        check(text.chars().allMatch(sign -> sign < 128), "signs beyond 127 in the source");
        methods(withoutComments(text));
        if (Files.exists(DOCUMENT)) {
            document(Files.readString(DOCUMENT), text);
        }
        System.out.println("LanguageTest: " + wrong + " rules broken");
        if (wrong != 0) {
            System.exit(1);
        }
    }

    private static void face() {
        Set<String> due = new TreeSet<>(Arrays.asList(FACE));
        Set<String> seen = new TreeSet<>();
        Set<String> publicNames = new TreeSet<>();
        for (Method method : WeftShop.class.getDeclaredMethods()) {
            if (Modifier.isPublic(method.getModifiers())) {
                publicNames.add(method.getName());
                check(method.getReturnType() == int.class, "rule 1: " + method.getName() + " answers an int");
                check(!Modifier.isStatic(method.getModifiers()), "rule 1: " + method.getName() + " isn't static");
                seen.add(method.getName() + types(method.getParameterTypes()));
            } else {
                check(Modifier.isPrivate(method.getModifiers()), "rule 1: " + method.getName() + " is private");
            }
        }
        check(seen.equals(due), "rule 1: the face is " + seen);
        for (Class<?> kind : kinds()) {
            for (Method method : kind.getDeclaredMethods()) {
                boolean hidden = !Modifier.isPublic(method.getModifiers());
                check(!hidden || !publicNames.contains(method.getName()), "rule 1: a private " + method.getName());
                check(method.getParameterCount() <= 7, "rule 11: parameters of " + method.getName());
            }
        }
        Constructor<?>[] constructors = WeftShop.class.getDeclaredConstructors();
        check(constructors.length == 1 && constructors[0].getParameterCount() == 0
            && Modifier.isPublic(constructors[0].getModifiers()), "rule 1: one public constructor without parameters");
        check(Modifier.isFinal(WeftShop.class.getModifiers()), "rule 1: the class is final");
        check(Modifier.isPublic(WeftShop.class.getModifiers()), "rule 1: the class is public");
        check(WeftShop.class.getInterfaces().length == 0, "rule 1: nothing implemented");
    }

    private static String types(Class<?>[] types) {
        List<String> names = new ArrayList<>();
        for (Class<?> type : types) {
            names.add(type.getName());
        }
        return "(" + String.join(",", names) + ")";
    }

    private static void constants() {
        Set<String> due = new TreeSet<>(Arrays.asList(CONSTANTS));
        Set<String> seen = new TreeSet<>();
        for (Field field : WeftShop.class.getDeclaredFields()) {
            int modifiers = field.getModifiers();
            if (Modifier.isPublic(modifiers)) {
                check(Modifier.isStatic(modifiers) && field.getType() == int.class, "rule 1: " + field.getName());
                seen.add(field.getName() + "=" + value(field));
            } else {
                check(Modifier.isPrivate(modifiers), "rule 1: " + field.getName() + " is private");
            }
        }
        check(seen.equals(due), "rule 1: the constants are " + seen);
        for (Class<?> kind : kinds()) {
            int ownFields = 0;
            for (Field field : kind.getDeclaredFields()) {
                boolean isStatic = Modifier.isStatic(field.getModifiers());
                check(!isStatic || Modifier.isFinal(field.getModifiers()), "rule 5: " + field.getName() + " is final");
                ownFields += isStatic ? 0 : 1;
            }
            check(ownFields <= 20, "rule 11: fields of " + kind.getName());
        }
    }

    private static int value(Field field) {
        try {
            return field.getInt(null);
        } catch (IllegalAccessException e) {
            return 0;
        }
    }

    private static List<Class<?>> kinds() {
        List<Class<?>> kinds = new ArrayList<>(Arrays.asList(WeftShop.class.getDeclaredClasses()));
        kinds.add(WeftShop.class);
        return kinds;
    }

    private static void nested() {
        check(kinds().size() <= 12, "rule 11: at most twelve classes");
        for (Class<?> kind : WeftShop.class.getDeclaredClasses()) {
            check(Modifier.isStatic(kind.getModifiers()), "rule 2: " + kind.getName() + " is static");
            check(!Modifier.isPublic(kind.getModifiers()), "rule 1: " + kind.getName() + " isn't public");
        }
    }

    private static String withoutComments(String text) {
        return text.replaceAll("(?s)/\\*.*?\\*/", "").replaceAll("//[^\n]*", "");
    }

    private static void words(String code) {
        for (String word : BANNED) {
            check(!Pattern.compile("\\b" + word + "\\b").matcher(code).find(), "rule 6 or 4: the word " + word);
        }
        check(!code.contains("->") && !code.contains("::"), "rule 2: no lambda, no method reference");
        check(!code.contains("\""), "no texts are needed");
        Matcher imports = Pattern.compile("import ([^;]+);").matcher(code);
        while (imports.find()) {
            check(imports.group(1).equals("java.util.Arrays"), "rule 4: import " + imports.group(1));
        }
        Matcher library = Pattern.compile("\\b(Math|Arrays|System|Integer|Long)\\.(\\w+)").matcher(code);
        Set<String> allowed = Set.of("Math.min", "Math.max", "Arrays.fill", "System.arraycopy");
        while (library.find()) {
            check(allowed.contains(library.group()), "rule 4: " + library.group());
        }
        // arrays and objects are made in constructors alone, so that calls need no room of their own
        Matcher made = Pattern.compile("\n *([^\n]*)\\bnew \\w+").matcher(code);
        while (made.find()) {
            check(made.group(1).matches("\\w+ = "), "rule 12: made outside a constructor: " + made.group().trim());
        }
    }

    private static void methods(String code) {
        int start = -1;
        String[] lines = code.split("\n");
        for (int i = 0; i < lines.length; i++) {
            if (lines[i].matches(" {4}( {4})?[^ ].*\\) \\{")) {
                start = i;
            } else if (start >= 0 && lines[i].matches(" {4}( {4})?\\}")) {
                check(i - start < 60, "rule 11: a method of over sixty lines at " + lines[start].trim());
                start = -1;
            }
        }
    }

    private static void document(String document, String text) {
        Matcher block = Pattern.compile("(?s)```java\n(.*?)```").matcher(document);
        check(block.find(), "the document has a public face");
        List<String> written = new ArrayList<>();
        for (String line : text.split("\n")) {
            if (line.matches("( {4})?public .*")) {
                written.add(line.replaceFirst(" \\{$", ";"));
            }
        }
        List<String> due = new ArrayList<>();
        for (String line : block.group(1).split("\n")) {
            if (line.contains("public ")) {
                due.add(line.replaceFirst(" \\{$", ";"));
            }
        }
        check(written.equals(due), "the public face, line by line: " + written);
        check(headings(text).equals(headingsDue(document)), "what stands ahead of the calls: " + headings(text));
    }

    private static List<String> headingsDue(String document) {
        List<String> due = new ArrayList<>();
        Matcher ahead = Pattern.compile("Ahead of the calls (.*) the interface says: (---- .*)\\.").matcher(document);
        while (ahead.find()) {
            due.add(ahead.group(2));
            due.addAll(Arrays.asList(ahead.group(1).replace("`", "").split(", ")));
        }
        return due;
    }

    private static List<String> headings(String text) {
        List<String> seen = new ArrayList<>();
        Matcher line = Pattern.compile("(?m)^ {4}(?:// (---- .*)|public int (\\w+)\\(.*)$").matcher(text);
        while (line.find()) {
            seen.add(line.group(1) != null ? line.group(1) : line.group(2));
        }
        return seen;
    }
}
