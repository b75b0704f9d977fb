import java.io.IOException;
import java.lang.reflect.Constructor;
import java.lang.reflect.Field;
import java.lang.reflect.Member;
import java.lang.reflect.Method;
import java.lang.reflect.Modifier;
import java.nio.file.Files;
import java.nio.file.Path;
import java.util.ArrayList;
import java.util.Arrays;
import java.util.List;
import java.util.Set;
import java.util.TreeSet;
import java.util.regex.Matcher;
import java.util.regex.Pattern;

// Those rules of LANGUAGE.md that can be seen by looking at the class and at its source.
public final class LanguageTest {
    private static final Checks C = new Checks("LanguageTest");
    private static final String[] METHODS = {
        "move(int,int)int", "line(int,int)int", "quad(int,int,int,int)int", "cubic(int,int,int,int,int,int)int",
        "close()int", "removeLast()int", "command(int,int)int", "setTolerance(int)int", "reverse(int)int",
        "transform(int,int,int,int,int,int)int", "say(int)int", "wipe()int", "fault()int", "load()int", "spell(int)int",
        "measure(int,int)int", "vertex(int,int,int)int", "at(int,int,int)int", "nearest(int,int,int)int",
        "winding(int,int)int", "area(int)long", "bound(int,int)int", "simplified(int,int,int)int", "addDash(int)int",
        "clearDashes(int)int", "dash(int,int,int)int", "setWidth(int,int)int", "setKerning(int,int,int)int",
        "write(int)int", "erase()int", "arrange(int,int,int)int", "letter(int,int,int)int", "placed(int,int)int",
        "count(int)int", "save(int)int", "restore(int)int"};
    private static final String[] CONSTANTS = {
        "LIMIT", "NO_SUCH", "BAD_VALUE", "BAD_TEXT", "TOO_MANY", "NOT_POSSIBLE", "NONE", "GONE",
        "MOVE", "LINE", "QUAD", "CUBIC", "CLOSE", "HIDE", "SQUEEZE", "ROUND", "MOVE_ON"};

    public static void main(String[] args) throws IOException {
        face();
        nestedClasses();
        source(Files.readString(Path.of("src/main/java/PathFlattener.java")));
        C.finish();
    }

    private static void face() {
        Class<?> face = PathFlattener.class;
        C.holds("public and final", Modifier.isPublic(face.getModifiers()) && Modifier.isFinal(face.getModifiers()));
        C.holds("no package", face.getPackageName().isEmpty());
        Set<String> methods = new TreeSet<>();
        for (Method m : face.getDeclaredMethods()) if (isOpen(m)) methods.add(signature(m));
        C.holds("the methods are those of the document: " + methods, methods.equals(new TreeSet<>(List.of(METHODS))));
        Set<String> constants = new TreeSet<>();
        for (Field f : face.getDeclaredFields()) if (isOpen(f)) constants.add(f.getName());
        C.holds("the constants are those of the document: " + constants, constants.equals(new TreeSet<>(List.of(CONSTANTS))));
        Constructor<?>[] constructors = face.getDeclaredConstructors();
        C.holds("one public constructor without parameters", constructors.length == 1 && Modifier.isPublic(constructors[0].getModifiers()) && constructors[0].getParameterCount() == 0);
    }

    private static boolean isOpen(Member m) {
        return !Modifier.isPrivate(m.getModifiers()) && !m.isSynthetic();
    }

    private static String signature(Method m) {
        List<String> types = Arrays.stream(m.getParameterTypes()).map(Class::getName).toList();
        return m.getName() + "(" + String.join(",", types) + ")" + m.getReturnType().getName();
    }

    private static void nestedClasses() {
        Set<String> faceNames = new TreeSet<>();
        for (String m : METHODS) faceNames.add(m.substring(0, m.indexOf('(')));
        List<Class<?>> all = new ArrayList<>(List.of(PathFlattener.class.getDeclaredClasses()));
        C.holds("some twelve classes", all.size() + 1 <= 12);
        for (Class<?> nested : all) {
            C.holds(nested + " is static and private", Modifier.isStatic(nested.getModifiers()) && Modifier.isPrivate(nested.getModifiers()));
            for (Method m : nested.getDeclaredMethods()) C.holds(nested + "." + m.getName() + " bears no name of the face", !faceNames.contains(m.getName()));
        }
        all.add(PathFlattener.class);
        for (Class<?> one : all) {
            int fields = 0;
            for (Field f : one.getDeclaredFields()) {
                if (!Modifier.isStatic(f.getModifiers())) fields++;
                else C.holds(one + "." + f.getName() + " is final", Modifier.isFinal(f.getModifiers()));
            }
            C.holds(one + " has some twenty fields: " + fields, fields <= 20);
            for (Method m : one.getDeclaredMethods()) C.holds(m + " takes at most seven parameters", m.getParameterCount() <= 7);
        }
    }

    private static void source(String text) {
        String code = text.replaceAll("//[^\n]*", "");
        String[] banned = {"throw", "try", "catch", "synchronized", "assert", "import", "->", "::", "instanceof", "Exact", "float", "double", "equals", "hashCode", "toString", "Random", "System.nanoTime", "System.out"};
        for (String word : banned) C.holds("no " + word, !Pattern.compile((Character.isLetter(word.charAt(0)) ? "\\b" : "") + Pattern.quote(word)).matcher(code).find());
        C.holds("only signs from 1 to 127", text.chars().allMatch(c -> c > 0 && c < 128));
        objectsOnlyInConstructors(code);
        shortMethods(code);
    }

    // What calls make is counted over the whole run; the class makes nothing after the constructor.
    private static void objectsOnlyInConstructors(String code) {
        Matcher m = Pattern.compile("(?m)^( *)(?:public )?[A-Z][A-Za-z]*\\(\\) \\{\n(?s:.*?)\n\\1\\}").matcher(code);
        C.holds("no 'new' outside constructors", !Pattern.compile("\\bnew\\b").matcher(m.replaceAll("")).find());
    }

    private static void shortMethods(String code) {
        Matcher m = Pattern.compile("(?m)^( +)[^\n]*\\) \\{\n(?s:.*?)\n\\1\\}").matcher(code);
        int found = 0;
        while (m.find()) {
            found++;
            int lines = m.group().split("\n").length;
            C.holds("a method of " + lines + " lines: " + m.group().split("\n")[0], lines <= 60);
        }
        C.holds("methods are found", found > 100);
    }
}
