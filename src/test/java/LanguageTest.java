import java.io.IOException;
import java.lang.reflect.Member;
import java.lang.reflect.Method;
import java.lang.reflect.Modifier;
import java.nio.file.Files;
import java.nio.file.Path;
import java.util.ArrayList;
import java.util.List;
import java.util.Set;
import java.util.TreeSet;
import java.util.regex.Matcher;
import java.util.regex.Pattern;

/** Those rules of LANGUAGE.md that can be looked up: the face, words that are left out, and how long things are. */
public final class LanguageTest {
    private static final String FACE = "type 2 wipe 1 undo 1 fault 1 person 2 street 2 old 3 umbrella 2 back 1 read 1 low 2 "
        + "behind 2 owes 3 first 1 ends 3 rings 2 shade 1 stroll 3 seen 3 forget 0 never 1 pass 0 forgets 4 season 3 "
        + "sheet 3 lose 1 lay 4 get 3 copy 5 write 2 count 1 digest 0";
    private static final String[] LEFT_OUT = {"throw", "throws", "try", "catch", "finally", "synchronized", "assert",
        "static \\{", "->", "::", "protected", "Exact", "hashCode", "toString", "Random", "Object", "Thread", "goto"};
    private static int wrong;

    private static void say(String what) {
        wrong++;
        System.out.println(what);
    }

    private static void checkFace() {
        Set<String> due = new TreeSet<>();
        String[] words = FACE.split(" ");
        for (int i = 0; i < words.length; i += 2) {
            due.add(words[i] + " " + words[i + 1]);
        }
        Set<String> names = new TreeSet<>(), found = new TreeSet<>();
        for (Method m : LowerBows.class.getDeclaredMethods()) {
            if (Modifier.isPublic(m.getModifiers())) {
                found.add(m.getName() + " " + m.getParameterCount());
                names.add(m.getName());
                boolean isLong = m.getName().equals("digest") || m.getName().equals("forgets");
                if (m.getReturnType() != (isLong ? long.class : int.class)) {
                    say(m.getName() + " answers another type");
                }
            }
        }
        if (!due.equals(found)) {
            say("the face is " + found + ", due is " + due);
        }
        List<Member> members = new ArrayList<>(List.of(LowerBows.class.getDeclaredMethods()));
        members.addAll(List.of(LowerBows.class.getDeclaredFields()));
        Set<String> constants = new TreeSet<>(List.of("NONE", "BAD", "NOT", "FULL"));
        for (Member m : members) {
            boolean known = names.contains(m.getName()) && m instanceof Method || constants.contains(m.getName());
            if (!known && !Modifier.isPrivate(m.getModifiers())) {
                say(m + " is not private");
            }
        }
        for (Class<?> inside : LowerBows.class.getDeclaredClasses()) {
            checkInside(inside, names);
        }
        if (LowerBows.class.getDeclaredClasses().length > 12) {
            say("too many classes");
        }
    }

    private static void checkInside(Class<?> inside, Set<String> names) {
        if (!Modifier.isStatic(inside.getModifiers()) || Modifier.isPublic(inside.getModifiers())) {
            say(inside + " is not static or is public");
        }
        long fields = List.of(inside.getDeclaredFields()).stream().filter(f -> !Modifier.isStatic(f.getModifiers())).count();
        if (fields > 20) {
            say(inside + " has " + fields + " fields");
        }
        for (Method m : inside.getDeclaredMethods()) {
            if (names.contains(m.getName())) {
                say(m + " bears the name of a public one");
            }
            if (m.getParameterCount() > 7) {
                say(m + " has too many parameters");
            }
        }
    }

    private static void checkText(String source) {
        String code = source.replaceAll("(?s)/\\*.*?\\*/", "").replaceAll("//[^\n]*", "");
        for (String word : LEFT_OUT) {
            String pattern = Character.isLetter(word.charAt(0)) ? "\\b" + word + (word.endsWith("{") ? "" : "\\b") : word;
            if (word.equals("Exact")) {
                pattern = "Exact\\s*\\(";
            }
            if (Pattern.compile(pattern).matcher(code).find()) {
                say("the class has '" + word + "'");
            }
        }
        Matcher imports = Pattern.compile("import ([^;]*);").matcher(code);
        while (imports.find()) {
            if (!Set.of("java.util.Arrays", "java.util.ArrayList", "java.util.List").contains(imports.group(1))) {
                say("the class has " + imports.group());
            }
        }
        if (!source.chars().allMatch(c -> c < 128)) {
            say("the class has a sign above 127");
        }
    }

    private static void checkLengths(String source) {
        int start = -1, indent = 0, line = 0;
        for (String text : source.split("\n")) {
            line++;
            Matcher head = Pattern.compile("^( {4}| {8})\\S[^;=]*\\([^;]*\\) \\{$").matcher(text);
            if (start < 0 && head.find() && !text.contains(" if ") && !text.contains(" class ")) {
                start = line;
                indent = head.group(1).length();
            } else if (start >= 0 && text.equals(" ".repeat(indent) + "}")) {
                if (line - start > 60) {
                    say("the method at line " + start + " is too long");
                }
                start = -1;
            }
        }
    }

    public static void main(String[] args) throws IOException {
        String source = Files.readString(Path.of("src/main/java/LowerBows.java"));
        checkFace();
        checkText(source);
        checkLengths(source);
        System.out.println("the rules of the language: " + wrong + " broken");
        if (wrong != 0) {
            System.exit(1);
        }
    }
}
