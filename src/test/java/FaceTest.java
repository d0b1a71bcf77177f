import java.lang.reflect.Constructor;
import java.lang.reflect.Field;
import java.lang.reflect.Method;
import java.lang.reflect.Modifier;
import java.io.IOException;
import java.nio.file.Files;
import java.nio.file.Path;
import java.util.ArrayList;
import java.util.List;
import java.util.Set;
import java.util.TreeSet;
import java.util.regex.Matcher;
import java.util.regex.Pattern;

/** The public face is the document's, no more and no less; and the source uses nothing that LANGUAGE.md rules out. */
public final class FaceTest {
    private static final Path SOURCE = Path.of("src/main/java/ModeratorsBench.java");

    private static final String[] FACE = {
        "about 2", "appeal 1", "check 0", "complain 2", "count 1", "due 2", "give 1", "hidden 1", "judge 4",
        "judged 2", "kin 3", "known 2", "ladder 2", "late 0", "level 1", "like 2", "limit 1", "may 2", "next 1",
        "post 3", "rest 2", "rule 4", "tick 1", "told 2", "undo 0", "unlike 2", "vote 3", "writer 2"};

    private static final String[] BANNED = {
        "throw", "throws", "try", "catch", "synchronized", "assert", "package", "protected", "Object", "Random",
        "Thread", "System", "Exact", "hashCode", "toString", "HashMap", "stream", "volatile", "native"};

    public static void main(String[] args) throws IOException {
        theClass();
        theMembers();
        theConstants();
        theSizes();
        theDocumentsFace();
        theSource();
        Due.end();
    }

    private static void theClass() {
        Class<?> type = ModeratorsBench.class;
        Due.holds("public and final", Modifier.isPublic(type.getModifiers()) && Modifier.isFinal(type.getModifiers()));
        Constructor<?>[] makers = type.getDeclaredConstructors();
        Due.is("constructors", makers.length, 1);
        Due.holds("public, without parameters",
            Modifier.isPublic(makers[0].getModifiers()) && makers[0].getParameterCount() == 0);
        for (Class<?> inside : type.getDeclaredClasses()) {
            Due.holds(inside + " is static", Modifier.isStatic(inside.getModifiers()));
            Due.holds(inside + " is not public", !Modifier.isPublic(inside.getModifiers()));
        }
    }

    private static void theMembers() {
        Set<String> open = new TreeSet<>();
        Set<String> openNames = new TreeSet<>();
        for (Method m : ModeratorsBench.class.getDeclaredMethods()) {
            if (!Modifier.isPrivate(m.getModifiers())) {
                open.add(m.getName() + " " + m.getParameterCount());
                openNames.add(m.getName());
                Due.holds(m + " is public and answers an int",
                    Modifier.isPublic(m.getModifiers()) && !Modifier.isStatic(m.getModifiers())
                    && m.getReturnType() == int.class);
                for (Class<?> parameter : m.getParameterTypes()) {
                    Due.holds(m + " takes ints", parameter == int.class);
                }
            }
        }
        Due.holds("the methods are the document's: " + open, open.equals(new TreeSet<>(Set.of(FACE))));
        for (Class<?> type : allClasses()) {
            for (Method m : type.getDeclaredMethods()) {
                Due.holds("private " + m.getName() + " bears a name of its own",
                    !Modifier.isPrivate(m.getModifiers()) || !openNames.contains(m.getName()));
            }
        }
    }

    /** The class itself and those inside it. */
    private static List<Class<?>> allClasses() {
        List<Class<?>> all = new ArrayList<>(List.of(ModeratorsBench.class.getDeclaredClasses()));
        all.add(ModeratorsBench.class);
        return all;
    }

    /** LANGUAGE.md, rule 11. */
    private static void theSizes() {
        Due.holds("at most twelve classes", allClasses().size() <= 12);
        for (Class<?> type : allClasses()) {
            int fields = 0;
            for (Field f : type.getDeclaredFields()) {
                fields += Modifier.isStatic(f.getModifiers()) ? 0 : 1;
            }
            Due.holds(type + " has at most twenty fields", fields <= 20);
            for (Method m : type.getDeclaredMethods()) {
                Due.holds(m + " takes at most seven", m.getParameterCount() <= 7);
            }
            for (Constructor<?> made : type.getDeclaredConstructors()) {
                Due.holds(made + " takes at most seven", made.getParameterCount() <= 7);
            }
        }
    }

    /** The methods as the document writes them, with the names of their parameters, stand in the source. */
    private static void theDocumentsFace() throws IOException {
        Path document = Path.of("../shared/DOC.md");
        if (!Files.isReadable(document)) {
            System.out.println(document + " is not there: the face is not looked up");
            return;
        }
        String source = Files.readString(SOURCE);
        int methods = 0;
        for (Matcher line = Pattern.compile("(?m)^    (public .*);$").matcher(Files.readString(document)); line.find(); ) {
            Due.holds("the source has " + line.group(1), source.contains("    " + line.group(1)));
            methods += line.group(1).startsWith("public int ") ? 1 : 0;
        }
        Due.is("methods of the document's face", methods, FACE.length);
    }

    private static void theConstants() throws IOException {
        Due.is("NONE", ModeratorsBench.NONE, -1);
        Due.is("FULL", ModeratorsBench.FULL, -2);
        Due.is("THERE", ModeratorsBench.THERE, -3);
        Due.is("NOT", ModeratorsBench.NOT, -4);
        int open = 0;
        for (Field f : ModeratorsBench.class.getDeclaredFields()) {
            open += Modifier.isPrivate(f.getModifiers()) ? 0 : 1;
            Due.holds("static " + f.getName() + " is final",
                !Modifier.isStatic(f.getModifiers()) || Modifier.isFinal(f.getModifiers()));
        }
        Due.is("fields that are not private", open, 4);
    }

    private static void theSource() throws IOException {
        String source = Files.readString(SOURCE);
        String code = source.replaceAll("(?s)/\\*.*?\\*/", " ").replaceAll("//[^\n]*", " ");
        for (String word : BANNED) {
            Due.holds("the source is without " + word, !Pattern.compile("\\b\\w*" + word + "\\b").matcher(code).find());
        }
        Due.holds("no lambda, no method reference", !code.contains("->") && !code.contains("::"));
        Matcher imports = Pattern.compile("import ([^;]+);").matcher(code);
        while (imports.find()) {
            Due.holds("import " + imports.group(1), imports.group(1).equals("java.util.ArrayList"));
        }
    }
}
