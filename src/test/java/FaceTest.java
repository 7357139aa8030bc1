import java.lang.reflect.Field;
import java.lang.reflect.Method;
import java.lang.reflect.Modifier;
import java.nio.file.Files;
import java.nio.file.Path;
import java.util.Arrays;
import java.util.HashSet;
import java.util.List;
import java.util.Set;
import java.util.TreeSet;
import java.util.regex.Matcher;
import java.util.regex.Pattern;
import java.util.stream.Collectors;

/** The public face, and what can be seen of LANGUAGE.md in the class and in its text. */
public final class FaceTest {
    private static final Due due = new Due("FaceTest");

    private static final String FACE = "minutes(int) set(int,int,int) wall(int,int) door(int,boolean) cell(int,int) sunk() sinks(int,int) "
        + "sounding(int,int,int,int) explained(int) way(int,int,int,int) group(int,int,int,int) reach(int,int) boat(int,int,int,int) can(int) most() seat() "
        + "row(int,int) alterRow(int,int,int) judge() order(int,int,int) ship(int,int,int,int) ready(int) call(int) hears(int) comes(int) "
        + "light(int,int,int) mayBe(int) sure(int) list(int,int) names(int) sworn(int) takeBack(int) standing(int) feed(long,int) read() version(int,int) "
        + "lack(int) rank(int,int) must(int,int) leg(int,int) run(int,int) sheet(int,int,int) put(int,int,int) item(int,int,int) sound(int,int,int,int,int) "
        + "shelf(int,int,int) taken(int,int) act(int,int,int) trace(int) many(int) keep() again()";

    public static void main(String[] args) throws Exception {
        constants();
        face();
        faceOfDocument();
        inside();
        text();
        due.end();
    }

    private static void constants() throws Exception {
        due.is("BAD", HalfBoats.BAD, -1);
        due.is("FULL", HalfBoats.FULL, -2);
        due.is("NONE", HalfBoats.NONE, -3);
        due.is("STATE", HalfBoats.STATE, -4);
        Set<String> open = new TreeSet<>();
        for (Field f : HalfBoats.class.getDeclaredFields()) {
            if (!Modifier.isPrivate(f.getModifiers())) {
                open.add(f.getName());
            }
        }
        yes("no other field can be seen: " + open, open.equals(Set.of("BAD", "FULL", "NONE", "STATE")));
        yes("one constructor", HalfBoats.class.getConstructors().length == 1 && HalfBoats.class.getDeclaredConstructors().length == 1);
        yes("it takes nothing", HalfBoats.class.getConstructor() != null);
        yes("public and final", Modifier.isPublic(HalfBoats.class.getModifiers()) && Modifier.isFinal(HalfBoats.class.getModifiers()));
    }

    private static void face() {
        Set<String> want = new TreeSet<>(Arrays.asList(FACE.split(" ")));
        Set<String> got = new TreeSet<>();
        for (Method m : HalfBoats.class.getDeclaredMethods()) {
            if (!Modifier.isPrivate(m.getModifiers()) && !m.isSynthetic()) {
                got.add(m.getName() + Arrays.stream(m.getParameterTypes()).map(Class::getName).collect(Collectors.joining(",", "(", ")")));
                yes(m + " answers an int, is public, not static",
                    m.getReturnType() == int.class && Modifier.isPublic(m.getModifiers()) && !Modifier.isStatic(m.getModifiers()));
            }
        }
        yes("the face: " + got, got.equals(want));
    }

    /** FACE, and so the class, is what the document's code block says. */
    private static void faceOfDocument() throws Exception {
        String document = Files.readString(Path.of("../shared/DOC.md"));
        int begin = document.indexOf("```java");
        String block = document.substring(begin, document.indexOf("```", begin + 7));
        Set<String> says = new TreeSet<>();
        Matcher m = Pattern.compile("public int (\\w+)\\(([^)]*)\\);").matcher(block);
        while (m.find()) {
            String types = Arrays.stream(m.group(2).split(", *")).map(p -> p.trim().split(" ")[0]).collect(Collectors.joining(","));
            says.add(m.group(1) + "(" + types + ")");
        }
        yes("the document's face: " + says, says.equals(new TreeSet<>(Arrays.asList(FACE.split(" ")))));
        yes("nothing else is in it", block.split("public ").length - 1 == says.size() + 3);
        yes("the constants of it", block.contains("public static final int BAD = -1, FULL = -2, NONE = -3, STATE = -4;"));
    }

    private static void inside() {
        Set<String> open = new HashSet<>();
        for (String name : FACE.split(" ")) {
            open.add(name.substring(0, name.indexOf('(')));
        }
        Class<?>[] classes = HalfBoats.class.getDeclaredClasses();
        yes("some twelve classes", classes.length + 1 <= 12);
        for (Class<?> c : classes) {
            yes(c + " is static, not public", Modifier.isStatic(c.getModifiers()) && !Modifier.isPublic(c.getModifiers()));
            for (Method m : c.getDeclaredMethods()) {
                yes(m + " bears no public name", !open.contains(m.getName()));
                yes(m + " has seven parameters at most", m.getParameterCount() <= 7);
            }
            fields(c);
        }
        fields(HalfBoats.class);
        for (Method m : HalfBoats.class.getDeclaredMethods()) {
            yes(m + " bears no public name", !Modifier.isPrivate(m.getModifiers()) || !open.contains(m.getName()));
        }
    }

    private static void fields(Class<?> c) {
        int own = 0;
        for (Field f : c.getDeclaredFields()) {
            boolean isStatic = Modifier.isStatic(f.getModifiers());
            own += isStatic ? 0 : 1;
            yes(f + " is final, if static", !isStatic || Modifier.isFinal(f.getModifiers()));
        }
        yes(c + " has some twenty fields: " + own, own <= 20);
    }

    private static void text() throws Exception {
        List<String> lines = Files.readAllLines(Path.of("src/main/java/HalfBoats.java"));
        Pattern banned = Pattern.compile("\\b(throw|throws|try|catch|finally|synchronized|assert|import|package|Random|System\\.(?!arraycopy)|Thread|Exact)\\b|->|::");
        int begin = 0;
        String name = "";
        for (int i = 0; i < lines.size(); i++) {
            String code = lines.get(i).replaceAll("^\\s*(/?\\*|//).*", "").replaceAll("//.*", "");
            Matcher m = banned.matcher(code);
            yes("line " + (i + 1) + ": " + lines.get(i), !m.find());
            yes("made with the object alone, line " + (i + 1), !code.contains("new ") || code.contains("final"));
            yes("no sign above 127, line " + (i + 1), lines.get(i).chars().allMatch(ch -> ch < 128));
            if (code.matches("\\s+[^=;]*\\(.*\\) \\{") && !code.matches("\\s+(if|for|while|switch|\\}).*")) {
                begin = i;
                name = code.trim();
            }
            yes("a method of some sixty lines: " + name, !code.matches("( {4}| {8})\\}") || i - begin <= 60 || code.equals("    }"));
        }
    }

    private static void yes(String what, boolean is) {
        due.is(what, is ? 1 : 0, 1);
    }
}
