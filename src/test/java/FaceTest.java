import java.io.IOException;
import java.lang.reflect.Constructor;
import java.lang.reflect.Field;
import java.lang.reflect.Method;
import java.lang.reflect.Modifier;
import java.nio.file.Files;
import java.nio.file.Path;
import java.util.List;
import java.util.Set;
import java.util.TreeSet;

/** The public face is the document's and no more; the source keeps to rules of LANGUAGE.md that can be seen. */
public final class FaceTest {
    private static final Set<String> FACE = new TreeSet<>(List.of("feed(long,long,long)int", "end(int)int", "book()int",
        "cancel(int)boolean", "day(int,int,int)int", "date(int,int)int", "key(int,int)int", "keys(int,int,int)int",
        "drop(int,int)boolean", "move(int,int,int)boolean", "restore(int,int)int", "next(int,int,int)int",
        "ahead(int,int,int)int", "count(int,int,int)int", "on(int,int,int)int", "onAt(int,int,int,int,int)int",
        "clash(int,int,int)int", "clashes(int,int,int,int)int", "roomClash(int,int,int)int", "free(int,int,int)int",
        "busy(int,int)int", "busiest(int,int,int)int", "split(int,int)int", "period(int)int", "periodOf(int,int)int",
        "of(int,int)int", "image(int)boolean", "back(int)boolean", "told(int)int"));

    private static String signature(Method m) {
        StringBuilder s = new StringBuilder(m.getName()).append('(');
        for (Class<?> type : m.getParameterTypes()) {
            s.append(s.charAt(s.length() - 1) == '(' ? "" : ",").append(type.getName());
        }
        return s.append(')').append(m.getReturnType().getName()).toString();
    }

    private static void methods() {
        Set<String> open = new TreeSet<>();
        Set<String> names = new TreeSet<>();
        for (Method m : BookIndex.class.getDeclaredMethods()) {
            if (!Modifier.isPrivate(m.getModifiers())) {
                open.add(signature(m));
                names.add(m.getName());
                Check.due(m + " is public", Modifier.isPublic(m.getModifiers()), true);
            }
        }
        open.removeAll(FACE);
        Check.due("methods beyond the face " + open, open.size(), 0);
        Check.due("methods of the face", names.size(), FACE.size());
        for (Class<?> inside : BookIndex.class.getDeclaredClasses()) {
            Check.due(inside + " is static", Modifier.isStatic(inside.getModifiers()), true);
            Check.due(inside + " is not public", Modifier.isPublic(inside.getModifiers()), false);
            for (Method m : inside.getDeclaredMethods()) {
                Check.due(m + " has a name of the face", names.contains(m.getName()), false);
            }
        }
        for (Method m : BookIndex.class.getDeclaredMethods()) {
            Check.due(m + " private with a name of the face",
                    Modifier.isPrivate(m.getModifiers()) && names.contains(m.getName()), false);
        }
    }

    private static void fields() {
        for (Field f : BookIndex.class.getDeclaredFields()) {
            Check.due(f + " is open", !Modifier.isPrivate(f.getModifiers()), f.getName().equals("NONE"));
            Check.due(f + " is static and not final",
                    Modifier.isStatic(f.getModifiers()) && !Modifier.isFinal(f.getModifiers()), false);
        }
        for (Constructor<?> c : BookIndex.class.getDeclaredConstructors()) {
            Check.due(c + " has parameters", c.getParameterCount(), 0);
        }
        Check.due("final", Modifier.isFinal(BookIndex.class.getModifiers()), true);
    }

    private static void source() throws IOException {
        String source = Files.readString(Path.of("src/main/java/BookIndex.java"));
        for (String word : List.of("->", "::", "catch", "finally", "synchronized", "assert ", "Exact(", "package ",
                "@", "double", "float", "System.out", "Random", "currentTimeMillis", "nanoTime")) {
            Check.due("the source has " + word, source.contains(word), false);
        }
        int imports = 0;
        int classes = 0;
        for (String line : source.split("\n")) {
            imports += line.startsWith("import ") ? 1 : 0;
            classes += line.matches("^ *(public|private).* class .*") ? 1 : 0;
            Check.due("a sign beyond 127 in " + line, line.chars().anyMatch(c -> c > 126), false);
        }
        Check.due("imports", imports, 1);
        Check.due("more than twelve classes", classes > 12, false);
    }

    public static void main(String[] args) throws IOException {
        methods();
        fields();
        source();
        Check.close();
    }
}
