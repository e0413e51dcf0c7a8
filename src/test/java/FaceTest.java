import java.io.IOException;
import java.lang.reflect.Field;
import java.lang.reflect.Member;
import java.lang.reflect.Method;
import java.lang.reflect.Modifier;
import java.nio.file.Files;
import java.nio.file.Path;
import java.util.ArrayList;
import java.util.HashSet;
import java.util.List;
import java.util.Set;
import java.util.regex.Matcher;
import java.util.regex.Pattern;

/** The public face of the document, and what the language's rules leave out of the source. */
final class FaceTest {
    private static final Path SOURCE = Path.of("src/main/java/HatHours.java");
    private static final String FACE = "int feed(int) int end(int) int text() int fault() int rule(int) "
            + "int box(int,int) int order(int,int) int alter(int,int,int) int start(int) int change(int,int) "
            + "int sew(int,int,int) int clock(int,int,int) int room(int,int) int out(int) int meet(int,int) "
            + "int first(int,int) int best(int) int begin(int) int swap(int) int longer(int) int when(int,int,int) "
            + "int wake(int,int) int where(int,int) long luck(int,int,int) long mean(int,int) int see(int,int,int) "
            + "int forget(int) int starts() int kinds(int) int works(int) int ask(int) int drift(int,int,int) "
            + "int keep(int) int back(int) int sheet(int,int,int) int lay(int,int,int) int read(int,int,int,int) "
            + "int torn() int count(int)";
    private static final Due due = new Due("FaceTest");

    public static void main(String[] args) throws IOException {
        methods();
        constantsAndFields();
        classesInside();
        source();
        library();
        lengths();
        due.close();
    }

    private static String told(Method m) {
        List<String> types = new ArrayList<>();
        for (Class<?> type : m.getParameterTypes()) {
            types.add(type.getName());
        }
        return m.getReturnType().getName() + " " + m.getName() + "(" + String.join(",", types) + ")";
    }

    private static boolean isPrivate(Member m) {
        return Modifier.isPrivate(m.getModifiers());
    }

    private static void methods() {
        Set<String> open = new HashSet<>();
        Set<String> openNames = new HashSet<>();
        for (Method m : HatHours.class.getDeclaredMethods()) {
            if (!isPrivate(m)) {
                due.is(m + " is public", Modifier.isPublic(m.getModifiers()) ? 1 : 0, 1);
                open.add(told(m));
                openNames.add(m.getName());
            }
        }
        Set<String> face = new HashSet<>(List.of(FACE.split("(?<=\\)) ")));
        due.is("39 methods", face.size(), 39);
        due.is("the methods are the face: " + open, open.equals(face) ? 1 : 0, 1);
        for (Method m : HatHours.class.getDeclaredMethods()) {
            due.is(m + " has a name of its own", isPrivate(m) && openNames.contains(m.getName()) ? 1 : 0, 0);
        }
        due.is("one constructor", HatHours.class.getDeclaredConstructors().length, 1);
        due.is("it is public", HatHours.class.getConstructors().length, 1);
        due.is("final", Modifier.isFinal(HatHours.class.getModifiers()) ? 1 : 0, 1);
    }

    private static void constantsAndFields() {
        due.is("BAD", HatHours.BAD, -1);
        due.is("STATE", HatHours.STATE, -2);
        due.is("FULL", HatHours.FULL, -3);
        due.is("NONE", HatHours.NONE, -4);
        int open = 0;
        for (Field f : HatHours.class.getDeclaredFields()) {
            open += isPrivate(f) ? 0 : 1;
        }
        due.is("four constants and no other open field", open, 4);
    }

    private static void classesInside() {
        Class<?>[] inside = HatHours.class.getDeclaredClasses();
        due.is("at most twelve classes", inside.length < 12 ? 1 : 0, 1);
        for (Class<?> c : inside) {
            due.is(c + " is static", Modifier.isStatic(c.getModifiers()) ? 1 : 0, 1);
            due.is(c + " is not open", c.getModifiers() & (Modifier.PUBLIC | Modifier.PROTECTED), 0);
            int fields = 0;
            for (Field f : c.getDeclaredFields()) {
                boolean fixed = Modifier.isStatic(f.getModifiers());
                fields += fixed ? 0 : 1;
                due.is(f + ", static, is final", fixed && !Modifier.isFinal(f.getModifiers()) ? 1 : 0, 0);
            }
            due.is(c + " has at most twenty fields", fields <= 20 ? 1 : 0, 1);
            for (Method m : c.getDeclaredMethods()) {
                due.is(m + " takes at most seven", m.getParameterCount() <= 7 ? 1 : 0, 1);
            }
        }
    }

    private static void source() throws IOException {
        String text = Files.readString(SOURCE);
        String code = code();
        String[] ruledOut = {"\\bthrow\\b", "\\btry\\b", "\\bcatch\\b", "\\bsynchronized\\b", "\\bassert\\b", "->", "::",
            "\\bimport\\b", "\\bpackage\\b", "Exact\\b", "\\bhashCode\\b", "\\btoString\\b", "\\brecord\\b",
            "\\bThread\\b", "\\bRandom\\b", "currentTime", "nanoTime", "\\bprotected\\b", "while \\(true\\)", "for \\(;;"};
        for (String word : ruledOut) {
            Matcher found = Pattern.compile(word).matcher(code);
            due.is(word + " is not in the source", found.find() ? 1 : 0, 0);
        }
        due.is("signs of the source are 1 to 127", text.chars().allMatch(c -> c >= 1 && c <= 127) ? 1 : 0, 1);
        Matcher made = Pattern.compile("(?m)^ ++(?!(private )?final ).*\\bnew\\b").matcher(code);
        due.is("objects are made with the object alone", made.find() ? 1 : 0, 0);
    }

    private static String code() throws IOException {
        return Files.readString(SOURCE).replaceAll("(?s)/\\*.*?\\*/", " ").replaceAll("//[^\n]*", " ");
    }

    /** Whatever is asked of a class by its name is asked of one inside, or stands in rule 4. */
    private static void library() throws IOException {
        Set<String> known = new HashSet<>(List.of("Math.floorMod", "Math.max", "Math.min", "Integer.bitCount",
                "System.arraycopy"));
        Set<String> inside = new HashSet<>();
        for (Class<?> c : HatHours.class.getDeclaredClasses()) {
            inside.add(c.getSimpleName());
        }
        Matcher asked = Pattern.compile("\\b([A-Z][a-z]\\w*)\\.(\\w+)").matcher(code());
        while (asked.find()) {
            boolean may = inside.contains(asked.group(1)) || known.contains(asked.group());
            due.is(asked.group() + " is of the library that is left", may ? 1 : 0, 1);
        }
    }

    private static void lengths() throws IOException {
        Matcher body = Pattern.compile("(?m)^( {4}| {8})(?! )[^\n]*\\) \\{\n(?:(?!\\1\\}).*\n)*\\1\\}").matcher(code());
        int methods = 0;
        while (body.find()) {
            methods++;
            long lines = body.group().lines().count();
            due.is(body.group().lines().findFirst().get() + " has at most sixty lines", lines <= 60 ? 1 : 0, 1);
        }
        due.is("methods were found", methods > 100 ? 1 : 0, 1);
    }
}
