import java.lang.reflect.Constructor;
import java.lang.reflect.Field;
import java.lang.reflect.Method;
import java.lang.reflect.Modifier;
import java.nio.file.Files;
import java.nio.file.Path;
import java.util.Set;
import java.util.TreeSet;
import java.util.regex.Pattern;

/** The face of the document, no more and no less, and the words that LANGUAGE.md rules out. */
public final class FaceTest {
    private static final Check CHECK = new Check("FaceTest");
    private static final Path PROGRAM = Path.of("src/main/java/LinkShaper.java");

    private static final Set<String> FACE = Set.of(
            "public static final int LinkShaper.NONE",
            "public LinkShaper()",
            "public int LinkShaper.group(int,int,int)",
            "public int LinkShaper.leaf(int,int,int,int,int,int)",
            "public boolean LinkShaper.police(int,int,int,boolean)",
            "public int LinkShaper.arrive(int,int)",
            "public int LinkShaper.run(int)",
            "public int LinkShaper.now()",
            "public int LinkShaper.packet(int,int)",
            "public int LinkShaper.sent(int)",
            "public int LinkShaper.about(int,int)",
            "public long LinkShaper.tokens(int,int)",
            "public long LinkShaper.tag(int,int)",
            "public int LinkShaper.count(int)");

    public static void main(String[] args) throws Exception {
        CHECK.due("NONE", LinkShaper.NONE, -1);
        CHECK.due("the class's modifiers", Modifier.toString(LinkShaper.class.getModifiers()), "public final");
        CHECK.due("the face", face().toString(), new TreeSet<>(FACE).toString());
        namesOfPrivateMethods();
        forbiddenWords();
        CHECK.end();
    }

    private static Set<String> face() {
        Set<String> found = new TreeSet<>();
        for (Field field : LinkShaper.class.getDeclaredFields()) {
            addUnlessPrivate(found, field.getModifiers(), field.toString());
        }
        for (Constructor<?> constructor : LinkShaper.class.getDeclaredConstructors()) {
            addUnlessPrivate(found, constructor.getModifiers(), constructor.toString());
        }
        for (Method method : LinkShaper.class.getDeclaredMethods()) {
            addUnlessPrivate(found, method.getModifiers(), method.toString());
        }
        return found;
    }

    private static void addUnlessPrivate(Set<String> found, int modifiers, String member) {
        if (!Modifier.isPrivate(modifiers)) {
            found.add(member);
        }
    }

    private static void namesOfPrivateMethods() {
        Set<String> names = new TreeSet<>();
        for (Method method : LinkShaper.class.getDeclaredMethods()) {
            if (Modifier.isPublic(method.getModifiers())) {
                names.add(method.getName());
            }
        }
        for (Class<?> inside : LinkShaper.class.getDeclaredClasses()) {
            CHECK.due(inside + " is static", Modifier.isStatic(inside.getModifiers()), true);
            for (Method method : inside.getDeclaredMethods()) {
                CHECK.due(method + " bears a public name", names.contains(method.getName()), false);
            }
        }
        for (Method method : LinkShaper.class.getDeclaredMethods()) {
            boolean isPrivate = Modifier.isPrivate(method.getModifiers());
            CHECK.due(method + " bears a public name", isPrivate && names.contains(method.getName()), false);
        }
    }

    private static void forbiddenWords() throws Exception {
        String code = Files.readString(PROGRAM).replaceAll("(?s)/\\*.*?\\*/", "").replaceAll("//.*", "");
        String[] words = {"throw", "throws", "try", "catch", "synchronized", "assert", "package", "System", "Exact",
            "equals", "hashCode", "toString", "protected", "->", "::", "double", "float", "static \\{"};
        for (String word : words) {
            boolean isName = Character.isLetter(word.charAt(0)) && !word.equals("Exact") && !word.contains("{");
            Pattern pattern = Pattern.compile(isName ? "\\b" + word + "\\b" : word);
            CHECK.due("the program has " + word, pattern.matcher(code).find(), false);
        }
        String imports = code.lines().filter(line -> line.startsWith("import")).toList().toString();
        CHECK.due("the program's imports", imports, "[import java.util.ArrayList;]");
    }
}
