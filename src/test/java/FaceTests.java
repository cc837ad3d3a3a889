import java.io.IOException;
import java.lang.reflect.Constructor;
import java.lang.reflect.Field;
import java.lang.reflect.Method;
import java.lang.reflect.Modifier;
import java.nio.file.Files;
import java.nio.file.Path;
import java.util.ArrayList;
import java.util.Arrays;
import java.util.List;
import java.util.Set;
import java.util.TreeSet;
import java.util.regex.Matcher;
import java.util.regex.Pattern;

/** The document's face, and the rules of the language that can be seen from outside or from the text. */
public final class FaceTests {
    private static final Path SOURCE = Path.of("src/main/java/WordGrid.java");
    private static final String[] FACE = {
        "int grid(int,int,int)", "int cut(int,int,int)", "int letter(int,int,int,int)", "int black(int,int,int,boolean)",
        "int bar(int,int,int,boolean,boolean)", "int at(int,int,int)", "int list(int,int,int,long)", "int drop(int)",
        "int word(int,long,int)", "int ask(int,int,long)", "long wordOf(int,int)", "int uses(int,boolean,int)",
        "int entries(int)", "int entry(int,int,int)", "long stands(int,int)", "int crossing(int,int,int)",
        "int fill(int,int)", "int goOn(int)", "int solve(int,int,int)", "long first(int,int)", "int searched(int)",
        "int judge(int,int)", "int move(int,int,int,int,int,int,int,int)", "int moved()", "int turn(int)",
        "int mirror(int)", "int trace(int)", "int finding()", "int found(int)", "long digest(int)", "int count(int)"};
    private static final String[] CONSTANTS = {"BAD", "STATE", "FULL", "SPENT", "NONE"};
    private static int wrong;

    private static void must(boolean holds, String what) {
        if (!holds) {
            wrong++;
            System.out.println(what);
        }
    }

    private static boolean isSeen(int modifiers) {
        return !Modifier.isPrivate(modifiers);
    }

    private static String told(Method method) {
        StringBuilder text = new StringBuilder(method.getReturnType().getName()).append(' ').append(method.getName());
        List<String> types = new ArrayList<>();
        for (Class<?> type : method.getParameterTypes()) {
            types.add(type.getName());
        }
        return text.append('(').append(String.join(",", types)).append(')').toString();
    }

    private static void face() throws IllegalAccessException {
        Class<?> type = WordGrid.class;
        must(Modifier.isPublic(type.getModifiers()) && Modifier.isFinal(type.getModifiers()), "the class is not public, final");
        Set<String> seen = new TreeSet<>();
        Set<String> names = new TreeSet<>();
        for (Method method : type.getDeclaredMethods()) {
            if (isSeen(method.getModifiers())) {
                seen.add(told(method));
                names.add(method.getName());
                must(Modifier.isPublic(method.getModifiers()) && !Modifier.isStatic(method.getModifiers()), told(method));
            }
        }
        Set<String> wanted = new TreeSet<>(Arrays.asList(FACE));
        must(seen.equals(wanted), "the methods are " + seen);
        Constructor<?>[] constructors = type.getDeclaredConstructors();
        must(constructors.length == 1 && constructors[0].getParameterCount() == 0
            && Modifier.isPublic(constructors[0].getModifiers()), "the constructor");
        Set<String> constants = new TreeSet<>();
        for (Field field : type.getDeclaredFields()) {
            if (isSeen(field.getModifiers())) {
                constants.add(field.getName());
                int place = Arrays.asList(CONSTANTS).indexOf(field.getName());
                must(place >= 0 && field.getInt(null) == -1 - place, "the constant " + field.getName());
            }
        }
        must(constants.equals(new TreeSet<>(Arrays.asList(CONSTANTS))), "the constants are " + constants);
        inside(type, names);
    }

    private static void inside(Class<?> type, Set<String> names) {
        List<Class<?>> all = new ArrayList<>(Arrays.asList(type.getDeclaredClasses()));
        must(all.size() + 1 <= 12, "there are " + all.size() + " classes inside");
        for (Class<?> one : all) {
            int modifiers = one.getModifiers();
            must(Modifier.isStatic(modifiers) && !Modifier.isPublic(modifiers), one + " is not as it must be");
            for (Method method : one.getDeclaredMethods()) {
                must(!names.contains(method.getName()), one + " has a method that bears a public name: " + method.getName());
            }
        }
        all.add(type);
        for (Class<?> one : all) {
            int fields = 0;
            for (Field field : one.getDeclaredFields()) {
                fields += Modifier.isStatic(field.getModifiers()) ? 0 : 1;
                must(!Modifier.isStatic(field.getModifiers()) || Modifier.isFinal(field.getModifiers()), field + " can change");
            }
            must(fields <= 20, one + " has " + fields + " fields");
            for (Method method : one.getDeclaredMethods()) {
                // The document itself gives move() eight.
                must(method.getParameterCount() <= 7 || method.getName().equals("move"), method + " takes too many");
            }
        }
    }

    private static void text() throws IOException {
        String source = Files.readString(SOURCE);
        String code = source.replaceAll("(?s)/\\*.*?\\*/", "").replaceAll("//[^\n]*", "");
        String[] words = {"throw", "throws", "try", "catch", "finally", "synchronized", "assert", "package", "Exact",
            "equals", "hashCode", "toString", "System\\.(?!arraycopy)\\w*", "Random", "Thread", "Object", "protected"};
        for (String word : words) {
            Matcher matcher = Pattern.compile("(?<![A-Za-z])" + word + "(?![A-Za-z])").matcher(code);
            must(!matcher.find(), "the text has " + word);
        }
        must(!code.contains("->") && !code.contains("::"), "the text has a lambda or a method reference");
        Matcher imports = Pattern.compile("import ([^;]*);").matcher(code);
        while (imports.find()) {
            must(imports.group(1).equals("java.util.Arrays"), "the text imports " + imports.group(1));
        }
        int begun = 0;
        int line = 0;
        for (String row : source.split("\n")) {
            line++;
            if (row.matches("( {4}| {8})[a-z].*\\) \\{")) {
                begun = line;
            } else if (row.matches("( {4}| {8})\\}")) {
                must(line - begun < 60, "a method is long: line " + begun);
            }
            must(row.length() <= 120, "line " + line + " is wide");
        }
    }

    public static void main(String[] args) throws IOException, IllegalAccessException {
        face();
        text();
        System.out.println(wrong == 0 ? "FaceTests: the face is as due" : "FaceTests: " + wrong + " things are not as due");
        if (wrong != 0) {
            System.exit(1);
        }
    }
}
