import java.io.IOException;
import java.lang.reflect.Constructor;
import java.lang.reflect.Field;
import java.lang.reflect.Method;
import java.lang.reflect.Modifier;
import java.nio.file.Files;
import java.nio.file.Path;
import java.util.HashSet;
import java.util.Set;
import java.util.TreeSet;
import java.util.regex.Matcher;
import java.util.regex.Pattern;

/** The face of the class, and those rules of LANGUAGE.md that a look at the class and its text can tell. */
public final class RulesTests {
    private static final String[] FACE = {
        "int letter(int)", "int blank()", "int fault()", "int hall()", "int thing(int,int)", "int dice(int,int)",
        "int as(int,int)", "int ways(int,int)", "int play(int,int,int,int)", "int odds(int)", "long back(int,int,int)",
        "int laws(int,int)", "int see(int)", "int forget()", "int which()", "int likely()", "int halls(int,int,int)",
        "int image()", "int restore()", "int count(int)", "long digest()",
    };
    private static final String[] CONSTANTS = {"NONE", "UNKNOWN", "OUTSIDE", "STATE", "FULL"};
    private static final String FORBIDDEN =
        "\\b(throw|throws|try|catch|synchronized|assert|import|package|volatile|transient|native|var)\\b|->|::|@";
    // Only what the class uses: whoever needs more looks at rule 4 first.
    private static final Set<String> LIBRARY = Set.of("Integer.bitCount", "Integer.lowestOneBit", "Math.min");
    private static int wrong = 0;

    private static void hold(boolean holds, String rule) {
        if (!holds) {
            wrong++;
            System.out.println(rule);
        }
    }

    public static void main(String[] args) throws IOException {
        face();
        constants();
        inside();
        String source = System.getProperty("main.source");
        hold(source != null, "-Dmain.source names the class's file");
        if (source != null) {
            text(Files.readString(Path.of(source)));
        }
        System.out.println(wrong == 0 ? "all rules hold" : wrong + " rules are broken");
        if (wrong != 0) {
            System.exit(1);
        }
    }

    private static String signature(Method m) {
        StringBuilder s = new StringBuilder(m.getReturnType().getName()).append(' ').append(m.getName()).append('(');
        for (int i = 0; i < m.getParameterCount(); i++) {
            s.append(i == 0 ? "" : ",").append(m.getParameterTypes()[i].getName());
        }
        return s.append(')').toString();
    }

    private static void face() {
        Set<String> due = new TreeSet<>(Set.of(FACE));
        Set<String> got = new TreeSet<>();
        for (Method m : KingdomAtDice.class.getDeclaredMethods()) {
            if (!Modifier.isPrivate(m.getModifiers())) {
                got.add(signature(m));
                hold(Modifier.isPublic(m.getModifiers()) && !Modifier.isStatic(m.getModifiers()), "rule 1: " + m);
            }
        }
        hold(due.equals(got), "rule 1: the face is " + got);
        Constructor<?>[] made = KingdomAtDice.class.getDeclaredConstructors();
        hold(made.length == 1 && made[0].getParameterCount() == 0 && Modifier.isPublic(made[0].getModifiers()), "rule 1: constructor");
        hold(Modifier.isFinal(KingdomAtDice.class.getModifiers()), "rule 1: final");
    }

    private static void constants() {
        Set<String> constants = new HashSet<>(Set.of(CONSTANTS));
        for (Field f : KingdomAtDice.class.getDeclaredFields()) {
            boolean told = constants.remove(f.getName());
            hold(told == Modifier.isPublic(f.getModifiers()) && told != Modifier.isPrivate(f.getModifiers()), "rule 1: " + f);
        }
        hold(constants.isEmpty(), "rule 1: constants " + constants);
    }

    private static void inside() {
        Set<String> names = new HashSet<>();
        for (String face : FACE) {
            names.add(face.substring(face.indexOf(' ') + 1, face.indexOf('(')));
        }
        members(KingdomAtDice.class, names);
        Class<?>[] classes = KingdomAtDice.class.getDeclaredClasses();
        hold(classes.length < 12, "rule 11: classes");
        for (Class<?> c : classes) {
            hold(Modifier.isStatic(c.getModifiers()), "rule 2: " + c);
            hold(!Modifier.isPublic(c.getModifiers()) && !Modifier.isProtected(c.getModifiers()), "rule 1: " + c);
            members(c, names);
        }
    }

    private static void members(Class<?> c, Set<String> names) {
        int fields = 0;
        for (Field f : c.getDeclaredFields()) {
            fields += Modifier.isStatic(f.getModifiers()) ? 0 : 1;
            hold(!Modifier.isStatic(f.getModifiers()) || Modifier.isFinal(f.getModifiers()), "rule 5: " + f);
        }
        hold(fields <= 20, "rule 11: fields of " + c);
        for (Method m : c.getDeclaredMethods()) {
            boolean isOfTheFace = c == KingdomAtDice.class && Modifier.isPublic(m.getModifiers());
            hold(isOfTheFace || !names.contains(m.getName()), "rule 1: the name of " + m);
            hold(m.getParameterCount() <= 7, "rule 11: " + m);
        }
    }

    private static void text(String source) {
        String code = source.replaceAll("(?s)/\\*.*?\\*/", " ").replaceAll("//[^\n]*", " ")
            .replaceAll("\"[^\"\n]*\"", "\"\"").replaceAll("'.'", "' '");
        Matcher m = Pattern.compile(FORBIDDEN).matcher(code);
        while (m.find()) {
            hold(false, "rules 2, 4, 6: " + m.group());
        }
        hold(source.chars().allMatch(c -> c >= 1 && c <= 127), "rule 4: signs");
        Matcher library = Pattern.compile("\\b(System|Arrays|StringBuilder|ArrayList|List|Math|Integer|Long)\\b(\\.\\w+)?").matcher(code);
        while (library.find()) {
            hold(LIBRARY.contains(library.group()), "rule 4: " + library.group());
        }
        methodsAreShort(code);
    }

    /** Methods stand at one of two depths, so each ends at the next brace that is as deep as its head. */
    private static void methodsAreShort(String code) {
        Matcher m = Pattern.compile("(?m)^( {4}| {8})(\\S[^;=\n]*\\)) \\{\n(?s:.*?)\n\\1\\}").matcher(code);
        int seen = 0;
        while (m.find()) {
            seen++;
            hold(m.group().lines().count() <= 60, "rule 11: " + m.group(2));
        }
        hold(seen > FACE.length, "rule 11: methods to look at, " + seen);
    }
}
