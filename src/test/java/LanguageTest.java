import java.io.IOException;
import java.lang.reflect.Executable;
import java.lang.reflect.Field;
import java.lang.reflect.Method;
import java.lang.reflect.Modifier;
import java.nio.file.Files;
import java.nio.file.Path;
import java.util.ArrayList;
import java.util.HashSet;
import java.util.List;
import java.util.Set;

/** The rules of LANGUAGE.md that can be seen from outside: the face, sizes, words that must not stand there. */
public final class LanguageTest {
    private static final Check CHECK = new Check();
    private static final Path SOURCE = Path.of("src/main/java/MarchHares.java");
    private static final int MOST_LINES = 60;
    private static final String FACE = "ahead/2 bouts/1 book/1 can/2 clover/3 count/1 debt/2 down/1 far/2 fault/0 "
            + "feed/5 few/4 fits/1 form/2 fox/2 hare/2 hops/2 image/0 law/1 look/1 march/3 range/1 refuge/2 restore/0 "
            + "ring/0 ringed/1 road/3 seat/1 seats/0 span/5 status/1 strongest/1 ties/2 told/1 undo/0 watch/1 work/1 "
            + "would/8";

    private static List<Class<?>> classes() {
        List<Class<?>> out = new ArrayList<>(List.of(MarchHares.class.getDeclaredClasses()));
        out.add(0, MarchHares.class);
        return out;
    }

    private static void face() {
        Set<String> due = new HashSet<>(List.of(FACE.split(" ")));
        int seen = 0;
        for (Method m : MarchHares.class.getDeclaredMethods()) {
            boolean open = Modifier.isPublic(m.getModifiers());
            String name = m.getName() + "/" + m.getParameterCount();
            CHECK.due("public or private: " + name, open || Modifier.isPrivate(m.getModifiers()) ? 1 : 0, 1);
            CHECK.due("of the face: " + name, due.contains(name) ? 1 : 0, open ? 1 : 0);
            Class<?> type = m.getName().equals("can") ? boolean.class : m.getName().equals("few") ? long.class : int.class;
            if (open) {
                seen++;
                CHECK.due("its answer: " + name, m.getReturnType() == type ? 1 : 0, 1);
            }
        }
        CHECK.due("methods of the face", seen, due.size());
        CHECK.due("constructors", MarchHares.class.getDeclaredConstructors().length, 1);
        for (Field f : MarchHares.class.getDeclaredFields()) {
            CHECK.due("field " + f.getName(), Modifier.isPrivate(f.getModifiers()) ? 1 : 0,
                    f.getName().equals("NONE") ? 0 : 1);
        }
        CHECK.due("NONE", MarchHares.NONE, -1);
    }

    /** The face word by word as the document tells it, with what each call may throw. */
    private static void faceAsTold(String source) throws IOException {
        if (!Check.isDocumentThere()) {
            return;
        }
        String document = Files.readString(Check.DOCUMENT);
        int from = document.indexOf("```java");
        String told = document.substring(from, document.indexOf("```", from + 3));
        String written = source.replaceAll("\\s+", " ");
        int lines = 0;
        for (String line : told.split("\n")) {
            if (line.startsWith("    public ") && line.endsWith(";")) {
                String due = line.strip();
                boolean constant = due.contains(" = ");
                String head = constant ? due : due.substring(0, due.length() - 1) + " {";
                CHECK.due("stands in the class: " + head, written.contains(head) ? 1 : 0, 1);
                lines++;
            }
        }
        CHECK.due("lines of the face", lines, FACE.split(" ").length + 2);
    }

    private static void insides() {
        Set<String> open = new HashSet<>();
        for (Method m : MarchHares.class.getDeclaredMethods()) {
            if (Modifier.isPublic(m.getModifiers())) {
                open.add(m.getName());
            }
        }
        CHECK.due("some twelve classes", classes().size() <= 12 ? 1 : 0, 1);
        for (Class<?> c : classes()) {
            boolean inside = c != MarchHares.class;
            CHECK.due("final: " + c, Modifier.isFinal(c.getModifiers()) ? 1 : 0, 1);
            CHECK.due("static inside: " + c, Modifier.isStatic(c.getModifiers()) ? 1 : 0, inside ? 1 : 0);
            int fields = 0;
            for (Field f : c.getDeclaredFields()) {
                boolean fixed = Modifier.isStatic(f.getModifiers());
                fields += fixed ? 0 : 1;
                CHECK.due("static but not final: " + f, fixed && !Modifier.isFinal(f.getModifiers()) ? 1 : 0, 0);
            }
            CHECK.due("some twenty fields: " + c, fields <= 20 ? 1 : 0, 1);
            List<Executable> all = new ArrayList<>(List.of(c.getDeclaredMethods()));
            all.addAll(List.of(c.getDeclaredConstructors()));
            for (Executable e : all) {
                int most = e.getName().equals("would") ? 8 : 7;
                CHECK.due("parameters: " + e, e.getParameterCount() <= most ? 1 : 0, 1);
                if (!Modifier.isPublic(e.getModifiers())) {
                    CHECK.due("a public name: " + e, open.contains(e.getName()) ? 1 : 0, 0);
                }
            }
        }
    }

    private static void words(String source) {
        String[] never = {"->", "::", "catch", "try {", "finally", "synchronized", "assert ", "static {", "package ",
            "System.out", "System.nanoTime", "System.currentTimeMillis", "Random", "Exact(", "new Object", "\" +",
            "+ \"", "hashCode", "getMessage", "\t"};
        for (String word : never) {
            CHECK.due("stands there: " + word, source.contains(word) ? 1 : 0, 0);
        }
        int imports = 0;
        for (String line : source.split("\n")) {
            imports += line.startsWith("import ") ? 1 : 0;
            CHECK.due("a line of 120 at most: " + line, line.length() <= 120 ? 1 : 0, 1);
            for (int at = 0; at < line.length(); at++) {
                if (line.charAt(at) > 126) {
                    CHECK.due("a sign beyond 126: " + line, 1, 0);
                }
            }
        }
        CHECK.due("imports", imports, 1);
        CHECK.due("that one", source.contains("import java.util.NoSuchElementException;") ? 1 : 0, 1);
    }

    /** A method begins with a line that ends in "{" behind a ")" and stands no deeper than eight blanks. */
    private static void lengths(String source) {
        String[] lines = source.split("\n");
        for (int at = 0; at < lines.length; at++) {
            String head = lines[at];
            int deep = head.length() - head.stripLeading().length();
            if ((deep == 4 || deep == 8) && head.endsWith(") {") && head.matches(" +[a-zA-Z].*")) {
                int end = at;
                while (end < lines.length && !lines[end].equals(" ".repeat(deep) + "}")) {
                    end++;
                }
                CHECK.due("a method of 60 lines at most: " + head.strip(), end - at <= MOST_LINES ? 1 : 0, 1);
            }
        }
    }

    /** Objects are made in constructors and where fields are told, else only to be thrown: calls use them again. */
    private static void makings(String source) {
        boolean constructor = false;
        for (String line : source.split("\n")) {
            constructor = line.equals("    public MarchHares() {") || constructor && !line.equals("    }");
            boolean field = line.matches(" {8}(private )?final int\\[\\] \\w+ = new int\\[.*\\];")
                    || line.matches(" {8}private final byte\\[\\] \\w+ = new byte\\[.*\\];");
            if (line.contains("new ") && !line.strip().startsWith("//") && !line.strip().startsWith("/**")) {
                CHECK.due("made in a call: " + line, constructor || field || line.contains("throw new ") ? 1 : 0, 1);
            }
        }
    }

    public static void main(String[] args) throws IOException {
        String source = Files.readString(SOURCE);
        face();
        faceAsTold(source);
        insides();
        words(source);
        lengths(source);
        makings(source);
        CHECK.end();
    }
}
