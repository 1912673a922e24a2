import java.lang.reflect.Field;
import java.lang.reflect.Member;
import java.lang.reflect.Method;
import java.lang.reflect.Modifier;
import java.nio.file.Files;
import java.nio.file.Path;
import java.util.ArrayList;
import java.util.Arrays;
import java.util.List;
import java.util.Set;
import java.util.TreeSet;
import java.util.regex.Matcher;
import java.util.regex.Pattern;

/** What of ../shared/LANGUAGE.md can be looked at by a program: the face, words that have no place, lengths. */
public final class LanguageTest {
    private static final String[] FACE = {
        "code()", "entry(int,int,int)", "told(int,int,int)", "draughts(int)", "type(long,int)", "clear()", "read()",
        "say(int)", "seen(int)", "reads(int,int,int)", "otherwise(int,int,int,int)", "utter(int)", "uses(int)",
        "year()", "undo()", "want(int)", "forget()", "hide(int,int,int)", "save(int,int,int)", "safe(int)",
        "fact(int,int)", "mayBe()", "heat(int,int,int,int,int)", "image(int)", "from(int)", "status(int)",
        "count(int)", "digest()"};
    private static final Set<String> CONSTANTS = Set.of("NONE", "BAD", "NO", "FULL");
    private static final String[] NO_PLACE = {
        "throw", "try", "catch", "synchronized", "assert", "import", "package", "volatile", "native", "->", "::", "@",
        "System.(?!arraycopy)", "Exact", "hashCode", "toString", "equals", "instanceof Integer", "Thread", "static \\{"};

    private static int wrong = 0;

    public static void main(String[] args) throws Exception {
        face();
        String source = Files.readString(Path.of("src/main/java/FanTalk.java"));
        String code = source.replaceAll("(?s)/\\*.*?\\*/", "").replaceAll("//[^\n]*", "");
        words(code);
        lengths(code);
        System.out.println("language: " + wrong + " wrong");
        if (wrong != 0) {
            System.exit(1);
        }
    }

    private static void hold(boolean rule, String told) {
        if (!rule) {
            wrong++;
            System.out.println(told);
        }
    }

    private static void face() {
        Set<String> open = new TreeSet<>();
        Set<String> names = new TreeSet<>();
        for (Method m : FanTalk.class.getDeclaredMethods()) {
            if (Modifier.isPrivate(m.getModifiers())) {
                continue;
            }
            List<String> types = new ArrayList<>();
            for (Class<?> type : m.getParameterTypes()) {
                types.add(type.getName());
            }
            open.add(m.getName() + "(" + String.join(",", types) + ")");
            names.add(m.getName());
            hold(m.getReturnType() == (m.getName().equals("digest") ? long.class : int.class), "rule 1: " + m);
            hold(Modifier.isPublic(m.getModifiers()) && !Modifier.isStatic(m.getModifiers()), "rule 1: " + m);
        }
        hold(open.equals(new TreeSet<>(Arrays.asList(FACE))), "rule 1: the face is " + open);
        for (Method m : FanTalk.class.getDeclaredMethods()) {
            hold(!Modifier.isPrivate(m.getModifiers()) || !names.contains(m.getName()), "rule 1: " + m);
        }
        for (Field f : FanTalk.class.getDeclaredFields()) {
            hold(Modifier.isPublic(f.getModifiers()) == CONSTANTS.contains(f.getName()), "rule 1: " + f);
            hold(Modifier.isPrivate(f.getModifiers()) || Modifier.isPublic(f.getModifiers()), "rule 1: " + f);
        }
        hold(Modifier.isFinal(FanTalk.class.getModifiers()), "rule 1: the class is final");
        hold(FanTalk.class.getDeclaredConstructors().length == 1, "rule 1: one constructor");
        Class<?>[] inside = FanTalk.class.getDeclaredClasses();
        hold(inside.length < 13, "rule 11: " + inside.length + " classes inside");
        for (Class<?> c : inside) {
            hold(Modifier.isStatic(c.getModifiers()) && !Modifier.isPublic(c.getModifiers()), "rule 2: " + c);
            fields(c);
        }
        fields(FanTalk.class);
    }

    private static void fields(Class<?> c) {
        long own = Arrays.stream(c.getDeclaredFields()).filter(f -> !isStatic(f)).count();
        hold(own <= 20, "rule 11: " + c + " has " + own + " fields");
        for (Field f : c.getDeclaredFields()) {
            hold(!isStatic(f) || Modifier.isFinal(f.getModifiers()), "rule 5: " + f);
        }
        for (Method m : c.getDeclaredMethods()) {
            hold(m.getParameterCount() <= 7, "rule 11: " + m);
        }
    }

    private static boolean isStatic(Member m) {
        return Modifier.isStatic(m.getModifiers());
    }

    private static void words(String code) {
        for (String none : NO_PLACE) {
            String whole = Character.isLetter(none.charAt(0)) ? "\\b" + none : none;
            Matcher found = Pattern.compile(whole).matcher(code);
            hold(!found.find(), "rules 4, 5, 6: there is " + none);
        }
    }

    private static void lengths(String code) {
        String[] lines = code.split("\n");
        for (int i = 0; i < lines.length; i++) {
            Matcher head = Pattern.compile("^( {4}| {8})[a-z].*\\) \\{$").matcher(lines[i]);
            if (head.matches()) {
                int end = i;
                while (!lines[end].equals(head.group(1) + "}") && !lines[end].startsWith(head.group(1) + "} ")) {
                    end++;
                }
                hold(end - i <= 60, "rule 11: " + lines[i].trim() + " is of " + (end - i) + " lines");
            }
        }
    }
}
