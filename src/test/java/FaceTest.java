import java.lang.reflect.Constructor;
import java.lang.reflect.Field;
import java.lang.reflect.Method;
import java.lang.reflect.Modifier;
import java.nio.file.Files;
import java.nio.file.Path;
import java.util.ArrayList;
import java.util.List;
import java.util.Set;
import java.util.TreeSet;
import java.util.regex.Matcher;
import java.util.regex.Pattern;

/** The document's face, and those of LANGUAGE.md's rules that can be read off the source. */
public final class FaceTest {
    private static final Check CHECK = new Check("FaceTest");
    private static final String[] FACE = {"int town(int)", "int cell(int,int)", "int cuts(int)", "int lays(int,int)",
        "int set(int,int)", "int house(int,int)", "int about(int,int)", "int light()", "int minutes(int)", "int anew()",
        "int presses(int)", "int holds(int)", "int lacks(int)", "int falls()", "int canCut()", "int weakest()",
        "int forLane()", "int order(int,int)", "int round()", "int moreOn()", "int will(int)", "int thick(int)",
        "int winds(int)", "long anyWind(int)", "long unlike(int)", "int wedge()", "int sits()", "int hits(int,int)",
        "int sendOut()", "int crowd(int)", "int safest()", "int fell(int)", "int forged(int)", "int judge(int)",
        "int days(int,int,int)", "int image()", "int restore()", "int count(int)", "int keep(int,int,int,int)",
        "int row(int,int,int)", "int put(int,int,int)",
        "long element(int,int)!IllegalArgumentException!IllegalStateException", "int copy(int,int,int,int,int)",
        "int cost(int)", "int toss(int)"};

    public static void main(String[] args) throws Exception {
        String source = Files.readString(Path.of(args.length > 0 ? args[0] : "src/main/java/LaidDownTheLane.java"));
        face();
        classesInside();
        onlyTheLibraryListed(source);
        noForbiddenWords(source);
        methodsAreShort(source);
        CHECK.end();
    }

    private static String signature(Method m) {
        StringBuilder s = new StringBuilder(m.getReturnType().getName() + " " + m.getName() + "(");
        for (Class<?> p : m.getParameterTypes()) {
            s.append(s.charAt(s.length() - 1) == '(' ? "" : ",").append(p.getName());
        }
        s.append(")");
        for (Class<?> e : m.getExceptionTypes()) {
            s.append("!").append(e.getSimpleName());
        }
        return s.toString();
    }

    private static void face() {
        Set<String> due = new TreeSet<>(List.of(FACE));
        Set<String> seen = new TreeSet<>();
        Set<String> open = new TreeSet<>();
        for (Method m : LaidDownTheLane.class.getDeclaredMethods()) {
            if (!Modifier.isPrivate(m.getModifiers())) {
                seen.add(signature(m));
                open.add(m.getName());
                CHECK.same(m.getName() + " is public", Modifier.isPublic(m.getModifiers()) ? 1 : 0, 1);
                CHECK.same(m.getName() + " is no static", Modifier.isStatic(m.getModifiers()) ? 1 : 0, 0);
            }
        }
        CHECK.same("the face is the document's: " + seen, seen.equals(due) ? 1 : 0, 1);
        for (Method m : LaidDownTheLane.class.getDeclaredMethods()) {
            if (Modifier.isPrivate(m.getModifiers())) {
                CHECK.same("private " + m.getName() + " bears a public name", open.contains(m.getName()) ? 1 : 0, 0);
            }
        }
        CHECK.same("final", Modifier.isFinal(LaidDownTheLane.class.getModifiers()) ? 1 : 0, 1);
        Constructor<?>[] made = LaidDownTheLane.class.getDeclaredConstructors();
        CHECK.same("one constructor", made.length, 1);
        CHECK.same("without numbers", made[0].getParameterCount(), 0);
        for (Field f : LaidDownTheLane.class.getDeclaredFields()) {
            CHECK.same(f.getName() + " is private", Modifier.isPrivate(f.getModifiers()) ? 1 : 0, 1);
            CHECK.same(f.getName() + " if static, final",
                Modifier.isStatic(f.getModifiers()) && !Modifier.isFinal(f.getModifiers()) ? 1 : 0, 0);
        }
    }

    private static void classesInside() {
        Class<?>[] inside = LaidDownTheLane.class.getDeclaredClasses();
        CHECK.same("some twelve classes", inside.length <= 11 ? 1 : 0, 1);
        for (Class<?> c : inside) {
            CHECK.same(c.getName() + " is static", Modifier.isStatic(c.getModifiers()) ? 1 : 0, 1);
            CHECK.same(c.getName() + " is private", Modifier.isPrivate(c.getModifiers()) ? 1 : 0, 1);
            int fields = 0;
            for (Field f : c.getDeclaredFields()) {
                fields += Modifier.isStatic(f.getModifiers()) ? 0 : 1;
            }
            CHECK.same(c.getName() + " has some twenty fields", fields <= 20 ? 1 : 0, 1);
            for (Method m : c.getDeclaredMethods()) {
                CHECK.same(m + " takes seven", m.getParameterCount() <= 7 ? 1 : 0, 1);
                CHECK.same(m + " bears a name of the face", namesOfTheFace().contains(m.getName()) ? 1 : 0, 0);
            }
        }
    }

    private static Set<String> namesOfTheFace() {
        Set<String> names = new TreeSet<>();
        for (String signature : FACE) {
            names.add(signature.substring(signature.indexOf(' ') + 1, signature.indexOf('(')));
        }
        return names;
    }

    private static void onlyTheLibraryListed(String source) {
        Set<String> allowed = Set.of("Math.floorMod", "Math.max", "Math.abs", "Integer.bitCount", "System.arraycopy");
        Matcher m = Pattern.compile("\\b([A-Z][A-Za-z]*)\\.([a-zA-Z_]+)").matcher(bare(source));
        while (m.find()) {
            CHECK.same("the library's " + m.group(), allowed.contains(m.group()) ? 1 : 0, 1);
        }
        CHECK.same("no import", source.contains("import ") ? 1 : 0, 0);
    }

    private static void noForbiddenWords(String source) {
        for (String word : new String[] {"synchronized", "assert", "finally", "instanceof", "package", "protected",
            "transient", "volatile", "native", "float", "double", "rethrow", "getMessage", "getClass", "hashCode"}) {
            CHECK.same("the word " + word, Pattern.compile("\\b" + word + "\\b").matcher(bare(source)).find() ? 1 : 0, 0);
        }
        CHECK.same("no lambda, no reference", source.contains("->") || source.contains("::") ? 1 : 0, 0);
        Set<String> caught = Set.of("IllegalArgumentException", "IllegalStateException", "UnsupportedOperationException");
        Matcher m = Pattern.compile("catch \\((\\w+)").matcher(source);
        while (m.find()) {
            CHECK.same("catches " + m.group(1), caught.contains(m.group(1)) ? 1 : 0, 1);
        }
    }

    private static void methodsAreShort(String source) {
        List<String> lines = new ArrayList<>(source.lines().toList());
        int begun = 0;
        for (int k = 0; k < lines.size(); k++) {
            String line = lines.get(k);
            if (line.matches("( {4}| {8})[a-z].*\\) (throws .*)?\\{")) {
                begun = k;
            }
            if (line.matches("( {4}| {8})\\}")) {
                CHECK.same("sixty lines up to " + (k + 1), k - begun <= 60 ? 1 : 0, 1);
            }
        }
    }

    /** The source without its comments and texts. */
    private static String bare(String source) {
        return source.replaceAll("(?s)/\\*.*?\\*/", "").replaceAll("//[^\\n]*", "").replaceAll("\"[^\"\\n]*\"", "\"\"");
    }
}
