import java.io.IOException;
import java.lang.reflect.Constructor;
import java.lang.reflect.Field;
import java.lang.reflect.Method;
import java.lang.reflect.Modifier;
import java.nio.charset.StandardCharsets;
import java.nio.file.Files;
import java.nio.file.Path;
import java.util.ArrayList;
import java.util.Collections;
import java.util.List;
import java.util.regex.Pattern;

/** The face is the document's and no more; the source keeps those rules of LANGUAGE.md that a search can find broken. */
public final class FaceTest {
    private static final Checks c = new Checks();

    private static final List<String> METHODS = List.of(
        "int apart(int,int,int)", "int asker(int,int)", "int back(int)", "int best(int,int,int)", "int chance(int,int,int)",
        "int clear()", "int could(int)", "int count(int)", "int forget()", "int heard(int,int,int,int)", "int hears(int,int)",
        "int keep(int)", "int lend(int,int,int)", "int lent(int,int)", "int looks(int,int)", "int mark(int,int)",
        "int must(int,int,int)", "int ours(int,int)", "int second(int,int)", "int sky(int)", "int turn(int,int)",
        "int twice(int)", "int type(long,int)", "int undo()", "int valley()", "long trace()");

    private static final List<String> FORBIDDEN_WORDS = List.of("throw", "throws", "try", "catch", "synchronized", "assert",
        "import", "package", "protected", "volatile", "transient", "native", "instanceof", "hashCode", "toString", "enum",
        "Exact", "System\\.(?!arraycopy)", "Thread", "Random", "Object", "->", "::");

    public static void main(String[] args) throws IOException {
        constants();
        methods();
        members();
        source();
        c.end();
    }

    private static void constants() {
        c.due("BAD", SkyListeners.BAD, -1);
        c.due("STATE", SkyListeners.STATE, -2);
        c.due("FULL", SkyListeners.FULL, -3);
        c.due("NONE", SkyListeners.NONE, -9);
        c.due("NO", SkyListeners.NO, -1000000);
    }

    private static void methods() {
        List<String> found = new ArrayList<>();
        List<String> hidden = new ArrayList<>();
        for (Method m : SkyListeners.class.getDeclaredMethods()) {
            String parameters = String.join(",", java.util.Arrays.stream(m.getParameterTypes()).map(Class::getName).toList());
            if (Modifier.isPublic(m.getModifiers())) {
                found.add(m.getReturnType().getName() + " " + m.getName() + "(" + parameters + ")");
                c.holds(m.getName() + " isn't static", !Modifier.isStatic(m.getModifiers()));
            } else {
                c.holds(m.getName() + " is private", Modifier.isPrivate(m.getModifiers()));
                hidden.add(m.getName());
            }
        }
        Collections.sort(found);
        c.holds("the methods are the document's: " + found, found.equals(METHODS));
        for (String method : METHODS) {
            String name = method.replaceAll("^\\w+ |\\(.*", "");
            c.holds("no private method is named " + name, !hidden.contains(name));
        }
        Constructor<?>[] constructors = SkyListeners.class.getDeclaredConstructors();
        c.due("constructors", constructors.length, 1);
        c.holds("public constructor without parameters",
            Modifier.isPublic(constructors[0].getModifiers()) && constructors[0].getParameterCount() == 0);
        c.holds("public and final", Modifier.isPublic(SkyListeners.class.getModifiers()) && Modifier.isFinal(SkyListeners.class.getModifiers()));
    }

    private static void members() {
        List<String> open = new ArrayList<>();
        List<Class<?>> classes = new ArrayList<>(List.of(SkyListeners.class.getDeclaredClasses()));
        c.holds("at most twelve classes", classes.size() < 12);
        for (Class<?> inside : classes) {
            c.holds(inside.getName() + " is static and not public",
                Modifier.isStatic(inside.getModifiers()) && !Modifier.isPublic(inside.getModifiers()));
        }
        for (Field f : SkyListeners.class.getDeclaredFields()) {
            if (!Modifier.isPrivate(f.getModifiers())) {
                open.add(f.getName());
            }
        }
        Collections.sort(open);
        c.holds("open fields are the constants: " + open, open.equals(List.of("BAD", "FULL", "NO", "NONE", "STATE")));
        classes.add(SkyListeners.class);
        for (Class<?> one : classes) {
            int fields = 0;
            for (Field f : one.getDeclaredFields()) {
                boolean isStatic = Modifier.isStatic(f.getModifiers());
                c.holds("static " + f + " is final", !isStatic || Modifier.isFinal(f.getModifiers()));
                fields += isStatic ? 0 : 1;
            }
            c.holds(one.getName() + " has at most twenty fields", fields <= 20);
            for (Method m : one.getDeclaredMethods()) {
                c.holds(m + " takes at most seven", m.getParameterCount() <= 7);
            }
        }
    }

    private static void source() throws IOException {
        Path path = Path.of("src/main/java/SkyListeners.java");
        String all = Files.readString(path, StandardCharsets.ISO_8859_1);
        String code = all.replaceAll("(?s)/\\*.*?\\*/", "").replaceAll("//[^\n]*", "");
        for (String word : FORBIDDEN_WORDS) {
            String searched = word.matches("\\w+") && !word.equals("Exact") ? "\\b" + word + "\\b" : word;
            c.holds("the source has no " + word, !Pattern.compile(searched).matcher(code).find());
        }
        c.holds("signs 1 to 126 alone", all.chars().allMatch(sign -> sign == '\n' || sign >= 32 && sign < 127));
        // rows are read and written in at() and put() alone, where the index is looked at
        c.due("a row's element is named twice", Pattern.compile("\\w\\[[^\\]]").matcher(code.replaceAll("new int\\[", "")).results().count(), 2);
        int length = 0;
        for (String line : all.split("\n")) {
            length = line.isBlank() ? 0 : length + 1;
            c.holds("no block is longer than sixty lines", length <= 60);
            c.holds("no line is longer than 130: " + line, line.length() <= 130);
        }
    }
}
