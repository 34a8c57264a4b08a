import java.lang.reflect.Constructor;
import java.lang.reflect.Field;
import java.lang.reflect.Method;
import java.lang.reflect.Modifier;
import java.nio.charset.StandardCharsets;
import java.nio.file.Files;
import java.nio.file.Path;
import java.util.Arrays;
import java.util.NoSuchElementException;
import java.util.Set;
import java.util.TreeSet;
import java.util.regex.Pattern;

/** The public face, and what of ../shared/LANGUAGE.md can be seen from outside. */
public final class FaceTest {
    private static final String[] FACE = {
        "int feed(int,int,int,int,int)", "int flight(int)", "int fault()", "int where()",
        "int stop(int)", "int way(int,int,int)", "int umbrella(int,int)", "int flies(int,int)",
        "int at(int,int)", "int strength(int,int)", "int flock(int,int)", "int falls(int)", "int arrived()",
        "int many(int,int)", "int wedge()", "int strongest()", "int judge()",
        "int waysOut(int)", "int wayOut(int,int,int)", "long chance(int,int,boolean)", "int bestWay(int)",
        "int bestDay(int)", "int bestMany(int)",
        "int fits(int)", "int could(int)", "int surely(int)", "int likeliest(int)", "int count(int)", "int countMost(int)",
        "int wet(int)", "int wetDays(int)", "int pins(int)", "int spare(int)", "int handings()",
        "long mean(boolean)", "int go(int,boolean)", "int herd(int,int,int)", "int mostTaken(int,int)",
        "int yearBy(int)", "int seasons(int,int)",
        "boolean keep(int,boolean)", "boolean send(int,int,int)", "int mend(int)", "boolean undo()", "int mark()",
        "boolean back(int)", "int led(int)", "int size(int)", "int trouble()"};

    private static String shape(Method m) {
        StringBuilder text = new StringBuilder(m.getReturnType() + " " + m.getName() + "(");
        for (Class<?> type : m.getParameterTypes()) {
            text.append(text.charAt(text.length() - 1) == '(' ? "" : ",").append(type);
        }
        return text.append(")").toString();
    }

    private static void face() {
        Class<?> c = UmbrellaFlight.class;
        Check.due("public and final", Modifier.isPublic(c.getModifiers()) && Modifier.isFinal(c.getModifiers()), true);
        Set<String> shown = new TreeSet<>();
        Set<String> names = new TreeSet<>();
        for (Method m : c.getDeclaredMethods()) {
            if (Modifier.isPublic(m.getModifiers())) {
                boolean led = m.getName().equals("led");
                Check.due(m + " tells what it throws", Arrays.equals(m.getExceptionTypes(),
                    led ? new Class<?>[] {NoSuchElementException.class} : new Class<?>[0]), true);
                shown.add(shape(m));
                names.add(m.getName());
            } else {
                Check.due(m + " is private", Modifier.isPrivate(m.getModifiers()) || m.isSynthetic(), true);
            }
        }
        Check.due("the face: " + shown, shown.equals(new TreeSet<>(Arrays.asList(FACE))), true);
        Check.due("NONE", UmbrellaFlight.NONE, -1);
        for (Field f : c.getDeclaredFields()) {
            Check.due(f + " is private", Modifier.isPrivate(f.getModifiers()), !f.getName().equals("NONE"));
            Check.due(f + " is no state of the class", !Modifier.isStatic(f.getModifiers())
                || Modifier.isFinal(f.getModifiers()), true);
        }
        Constructor<?>[] makers = c.getDeclaredConstructors();
        Check.due("one constructor", makers.length == 1 && Modifier.isPublic(makers[0].getModifiers()), true);
        Check.due("classes", c.getDeclaredClasses().length <= 11, true);
        for (Class<?> inside : c.getDeclaredClasses()) {
            Check.due(inside + " is static and hidden", Modifier.isStatic(inside.getModifiers())
                && !Modifier.isPublic(inside.getModifiers()) && !Modifier.isProtected(inside.getModifiers()), true);
            for (Method m : inside.getDeclaredMethods()) {
                Check.due(m + " has a name of its own", names.contains(m.getName()), false);
            }
        }
        for (Method m : c.getDeclaredMethods()) {
            Check.due(m + " has few parameters", m.getParameterCount() <= 7, true);
            Check.due(m + " is no private one by a public name", !Modifier.isPublic(m.getModifiers())
                && names.contains(m.getName()), false);
        }
    }

    /** What the rules rule out, as far as it can be seen from words alone. */
    private static void source() throws Exception {
        String text = Files.readString(Path.of("src/main/java/UmbrellaFlight.java"), StandardCharsets.ISO_8859_1);
        String code = text.replaceAll("(?s)/\\*.*?\\*/", "").replaceAll("//[^\n]*", "");
        String[] ruledOut = {"(?m)^(?!.*\\b(case|default)\\b).*->", "::", "\\bfinally\\b", "\\btry\\s*\\(", "\\bsynchronized\\b",
            "\\bassert\\b", "\\bpackage\\b", "Exact\\(", "\\bSystem\\.(?!arraycopy)", "\\bRandom\\b", "\\bThread\\b",
            "\\bgetMessage\\b", "\\bThrowable\\b", "catch\\s*\\([^)]*\\b(Exception|Error)\\b", "catch\\s*\\([^)]*(ArrayIndex|"
            + "NullPointer|ArrayStore|ClassCast|NegativeArray)", "\" \\+", "\\+ \"", "\\bextends (\\w*Exception|RuntimeException)\\b"};
        for (String rule : ruledOut) {
            Check.due("the source without " + rule, Pattern.compile(rule).matcher(code).find(), false);
        }
        Check.due("imports of the library that is listed", Pattern.compile("import (?!java\\.util\\.(NoSuchElementException|"
            + "ArrayList|List|Arrays|Iterator);)").matcher(code).find(), false);
        Check.due("throws of what is listed", Pattern.compile("\\bthrow (?!new (IllegalStateException|IllegalArgumentException|"
            + "IndexOutOfBoundsException|ArithmeticException|UnsupportedOperationException|NoSuchElementException|"
            + "RuntimeException)\\()").matcher(code).find(), false);
        for (int i = 0; i < text.length(); i++) {
            if (text.charAt(i) > 126) {
                Check.due("sign at " + i, text.charAt(i), 126);
            }
        }
    }

    public static void main(String[] args) throws Exception {
        face();
        source();
        Check.end();
    }
}
