import java.io.IOException;
import java.lang.reflect.Constructor;
import java.lang.reflect.Field;
import java.lang.reflect.Method;
import java.lang.reflect.Modifier;
import java.nio.file.Files;
import java.nio.file.Path;
import java.util.ArrayList;
import java.util.Arrays;
import java.util.List;
import java.util.regex.Matcher;
import java.util.regex.Pattern;

/** Looks at the source and at the compiled class for what LANGUAGE.md leaves out; it cannot see all of its rules. */
public final class LanguageTest {
    private static final String SOURCE = "src/main/java/BandCornets.java";
    private static final String DOCUMENT = "../shared/DOC.md";
    private static final Checks c = new Checks();

    private static final String[] LEFT_OUT = {
        "import ", "package ", "->", "::", "Exact", "Double.", "Float.", "Character.", "System.out", "System.err",
        "finally", "synchronized", "assert ", "catch", "try ", "var ", "equals(", "hashCode(", "toString(",
        "Object", "Random", "nanoTime", "currentTimeMillis", "Thread", "getMessage", "strictfp", "native ", "String.",
    };

    private static final String[] FACE = {
        "append(int):int!IllegalArgumentException!IllegalStateException",
        "back(int):int!IndexOutOfBoundsException!IllegalStateException",
        "bestMarch():int",
        "clearBuffer():int",
        "count(int):int!IllegalArgumentException",
        "dent(int,int):int!IndexOutOfBoundsException!IllegalArgumentException",
        "digest():long",
        "firstError():int",
        "helps(int,int):int!IndexOutOfBoundsException",
        "instrument(int):int!IllegalArgumentException!IllegalStateException",
        "instrumentOf(int,int):int!IndexOutOfBoundsException!IllegalArgumentException",
        "keep():int",
        "lend(int,int):int!IndexOutOfBoundsException!IllegalStateException",
        "loan(int):int!IllegalArgumentException",
        "march(int):int!IndexOutOfBoundsException!IllegalStateException",
        "mend(int):int!IndexOutOfBoundsException!IllegalStateException",
        "most(int):int!IndexOutOfBoundsException",
        "noLesson(int,int):int!IndexOutOfBoundsException",
        "noLoan(int,int):int!IndexOutOfBoundsException",
        "part(int,int,int):int!IndexOutOfBoundsException!IllegalArgumentException",
        "pass(int):int!IllegalArgumentException",
        "pay(int,int):int!IndexOutOfBoundsException!IllegalArgumentException",
        "played():double",
        "pupil(int):int!IllegalArgumentException!IllegalStateException",
        "pupilOf(int,int):int!IndexOutOfBoundsException!IllegalArgumentException",
        "restore():int!IllegalStateException",
        "set(int,int):int!IndexOutOfBoundsException!IllegalArgumentException",
        "shortOf(int):int!IndexOutOfBoundsException",
        "teach(int,int):int!IndexOutOfBoundsException!IllegalStateException",
        "told(int,int):int!IndexOutOfBoundsException!IllegalArgumentException",
        "undo():int!IllegalStateException",
        "work():int!IllegalArgumentException",
    };

    public static void main(String[] args) throws IOException {
        String source = Files.readString(Path.of(SOURCE));
        String code = withoutComments(source);
        c.at("source");
        for (String word : LEFT_OUT) {
            c.due("'" + word + "'", code.contains(word) ? 1 : 0, 0);
        }
        for (int k = 0; k < code.length(); k++) {
            c.due("sign " + k, code.charAt(k) < 128 ? 0 : 1, 0);
        }
        throwsAreLeft(code);
        methodsAreShort(code);
        face();
        faceOfTheDocument(Files.readString(Path.of(DOCUMENT)), source);
        classes();
        c.end("LanguageTest");
    }

    private static String withoutComments(String source) {
        return source.replaceAll("(?s)/\\*.*?\\*/", "").replaceAll("//[^\n]*", "");
    }

    private static void throwsAreLeft(String code) {
        Matcher m = Pattern.compile("throw (.*)").matcher(code);
        Pattern left = Pattern.compile(
            "new (IllegalStateException|IllegalArgumentException|IndexOutOfBoundsException)\\(\"[ -~]+\"\\);");
        while (m.find()) {
            c.due("'" + m.group() + "'", left.matcher(m.group(1)).matches() ? 1 : 0, 1);
        }
    }

    /** A method begins at an indent of 4 or 8 with a brace, and ends at the same indent. */
    private static void methodsAreShort(String code) {
        List<String> lines = Arrays.asList(code.split("\n"));
        for (int k = 0; k < lines.size(); k++) {
            String line = lines.get(k);
            if (line.matches("( {4}| {8})\\S.*\\(.*\\{") && !line.contains("class ")) {
                String end = line.replaceAll("\\S.*", "") + "}";
                int length = lines.subList(k, lines.size()).indexOf(end) + 1;
                c.due("lines of" + line, length > 0 && length <= 60 ? 1 : 0, 1);
                c.due("parameters of" + line, line.split(",").length <= 7 ? 1 : 0, 1);
            }
        }
    }

    private static void face() {
        c.at("face");
        List<String> seen = new ArrayList<>();
        List<String> hidden = new ArrayList<>();
        for (Method m : BandCornets.class.getDeclaredMethods()) {
            if (Modifier.isPublic(m.getModifiers())) {
                StringBuilder s = new StringBuilder(m.getName()).append('(');
                for (int k = 0; k < m.getParameterCount(); k++) {
                    s.append(k > 0 ? "," : "").append(m.getParameterTypes()[k].getSimpleName());
                }
                s.append("):").append(m.getReturnType().getSimpleName());
                for (Class<?> e : m.getExceptionTypes()) {
                    s.append('!').append(e.getSimpleName());
                }
                seen.add(s.toString());
            } else {
                c.due(m + " is private", Modifier.isPrivate(m.getModifiers()) ? 1 : 0, 1);
                hidden.add(m.getName());
            }
        }
        seen.sort(null);
        c.due("public methods", seen.toString(), Arrays.asList(FACE).toString());
        for (String name : hidden) {
            for (String line : FACE) {
                c.due("a private method bears the name of " + line, line.startsWith(name + "(") ? 1 : 0, 0);
            }
        }
        int mods = BandCornets.class.getModifiers();
        c.due("public and final", Modifier.isPublic(mods) && Modifier.isFinal(mods) ? 1 : 0, 1);
        Constructor<?>[] made = BandCornets.class.getDeclaredConstructors();
        c.due("constructors", made.length, 1);
        c.due("public constructor", Modifier.isPublic(made[0].getModifiers()) ? 1 : 0, 1);
        c.due("its parameters", made[0].getParameterCount(), 0);
        for (Field f : BandCornets.class.getDeclaredFields()) {
            boolean isConstant = f.getName().equals("NONE") && Modifier.isPublic(f.getModifiers())
                && Modifier.isStatic(f.getModifiers()) && Modifier.isFinal(f.getModifiers());
            c.due(f + " is private or NONE", isConstant || Modifier.isPrivate(f.getModifiers()) ? 1 : 0, 1);
        }
    }

    /** The lines of the document's face stand in the source in their order, and its headings ahead of their calls. */
    private static void faceOfTheDocument(String document, String source) {
        c.at("face of the document");
        Matcher line = Pattern.compile("(?m)^    (public .*?);? *$").matcher(document);
        int behind = 0;
        int lines = 0;
        while (line.find()) {
            int at = source.indexOf("    " + line.group(1) + (line.group(1).contains("(") ? " {\n" : ";\n"), behind);
            c.due(line.group(1), at >= 0 ? 1 : 0, 1);
            behind = Math.max(at, behind);
            lines++;
        }
        c.due("lines of the face", lines, FACE.length + 2);
        Matcher heading = Pattern.compile("Ahead of the calls (.*?) the interface says: (---- .*)\\.").matcher(document);
        int headings = 0;
        while (heading.find()) {
            int said = source.indexOf("    // " + heading.group(2) + "\n");
            int next = source.indexOf("    // ----", said + 1);
            for (String name : heading.group(1).replace("`", "").split(", ")) {
                int call = source.indexOf(" " + name + "(", source.indexOf("    public BandCornets()"));
                c.due(name + " stands under " + heading.group(2), said >= 0 && said < call && call < next ? 1 : 0, 1);
            }
            headings++;
        }
        c.due("headings", headings, 6);
    }

    private static void classes() {
        c.at("classes");
        Class<?>[] inside = BandCornets.class.getDeclaredClasses();
        c.due("few classes", inside.length < 12 ? 1 : 0, 1);
        fields(BandCornets.class);
        for (Class<?> one : inside) {
            c.due(one + " is static", Modifier.isStatic(one.getModifiers()) ? 1 : 0, 1);
            c.due(one + " is not public", Modifier.isPublic(one.getModifiers()) ? 1 : 0, 0);
            fields(one);
        }
    }

    private static void fields(Class<?> one) {
        int count = 0;
        for (Field f : one.getDeclaredFields()) {
            if (Modifier.isStatic(f.getModifiers())) {
                c.due(f + " is final", Modifier.isFinal(f.getModifiers()) ? 1 : 0, 1);
            } else {
                count++;
            }
        }
        c.due("few fields in " + one, count <= 20 ? 1 : 0, 1);
    }
}
