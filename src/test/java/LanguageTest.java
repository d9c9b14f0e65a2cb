import java.lang.reflect.Constructor;
import java.lang.reflect.Field;
import java.lang.reflect.Method;
import java.lang.reflect.Modifier;
import java.nio.file.Files;
import java.nio.file.Path;
import java.util.ArrayList;
import java.util.Arrays;
import java.util.Collections;
import java.util.List;
import java.util.regex.Matcher;
import java.util.regex.Pattern;

/** The class's face as the document has it, and those rules of ../shared/LANGUAGE.md that can be seen from outside. */
public final class LanguageTest {
    private static final String[] FACE = {"best(int,int)", "boat()", "coast()", "copy(int,int)", "count(int)", "cut(int,int)",
        "feed(int)", "finer(int)", "hours(int)", "image()", "islands()", "judge(int,int)", "map(int,int)", "place(int,int,int)",
        "point(int,int)", "restore()", "rock(int,int)", "row(int)", "seeds(int,int)", "shore(int)", "span(int)",
        "stretch(int,int)", "sure(int)", "tide(int)", "two(int,int,int)", "walk(int,int,int)", "worstCut(int)"};
    private static final String[] FORBIDDEN = {"\\bthrow\\b", "\\btry\\b", "\\bcatch\\b", "\\bsynchronized\\b", "\\bassert\\b",
        "\\bimport\\b", "\\bpackage\\b", "\\bpublic enum\\b", "->", "::", "@", "Exact\\b", "\\.values\\(", "\"",
        "while \\(true\\)", "for \\(;", "\\bhashCode\\b", "\\btoString\\b", "\\bSystem\\.(?!arraycopy)", "\\bvar\\b", "\\bstatic \\{"};
    private static final Due DUE = new Due("LanguageTest");

    public static void main(String[] args) throws Exception {
        face();
        members();
        nested();
        source();
        DUE.end();
    }

    private static void face() {
        DUE.part("face");
        List<String> found = new ArrayList<>();
        for (Method method : PaidByCoast.class.getDeclaredMethods()) {
            if (Modifier.isPublic(method.getModifiers())) {
                DUE.that(method.getName() + " answers an int and is no static", method.getReturnType() == int.class
                    && !Modifier.isStatic(method.getModifiers()));
                List<String> types = new ArrayList<>();
                for (Class<?> type : method.getParameterTypes()) {
                    types.add(type.getSimpleName());
                }
                found.add(method.getName() + "(" + String.join(",", types) + ")");
            }
        }
        Collections.sort(found);
        DUE.that("the public methods are those of the document: " + found, found.equals(Arrays.asList(FACE)));
        DUE.that("public and final", Modifier.isPublic(PaidByCoast.class.getModifiers())
            && Modifier.isFinal(PaidByCoast.class.getModifiers()));
        Constructor<?>[] constructors = PaidByCoast.class.getDeclaredConstructors();
        DUE.that("one public constructor", constructors.length == 1 && Modifier.isPublic(constructors[0].getModifiers())
            && constructors[0].getParameterCount() == 0);
    }

    private static void members() {
        DUE.part("rules 1, 5, 11");
        List<String> publicNames = new ArrayList<>();
        for (String method : FACE) {
            publicNames.add(method.substring(0, method.indexOf('(')));
        }
        for (Method method : PaidByCoast.class.getDeclaredMethods()) {
            int is = method.getModifiers();
            DUE.that(method.getName() + " is public or private", Modifier.isPublic(is) || Modifier.isPrivate(is));
            DUE.that(method.getName() + " bears no public name", Modifier.isPublic(is) || !publicNames.contains(method.getName()));
        }
        for (Field field : PaidByCoast.class.getDeclaredFields()) {
            DUE.that(field.getName() + " is private", Modifier.isPrivate(field.getModifiers()));
        }
        for (Class<?> each : classes()) {
            int fields = 0;
            for (Field field : each.getDeclaredFields()) {
                boolean isStatic = Modifier.isStatic(field.getModifiers());
                DUE.that(field + " is final if static", !isStatic || Modifier.isFinal(field.getModifiers()));
                fields += isStatic ? 0 : 1;
            }
            DUE.that(each + " has some twenty fields at most", fields <= 20);
            for (Method method : each.getDeclaredMethods()) {
                DUE.that(method + " takes seven parameters at most", method.getParameterCount() <= 7);
                DUE.that(method + " is no compiler's own", !method.isSynthetic());
            }
        }
    }

    private static List<Class<?>> classes() {
        List<Class<?>> classes = new ArrayList<>();
        classes.add(PaidByCoast.class);
        classes.addAll(Arrays.asList(PaidByCoast.class.getDeclaredClasses()));
        return classes;
    }

    private static void nested() {
        DUE.part("rules 1, 2, 11");
        for (Class<?> each : PaidByCoast.class.getDeclaredClasses()) {
            int is = each.getModifiers();
            DUE.that(each + " is static", Modifier.isStatic(is));
            DUE.that(each + " is private or package-visible", !Modifier.isPublic(is) && !Modifier.isProtected(is));
            DUE.that(each + " has no classes inside", each.getDeclaredClasses().length == 0);
        }
        DUE.that("some twelve classes at most", classes().size() <= 12);
    }

    private static void source() throws Exception {
        DUE.part("rules 2, 4, 6, 9, 10");
        String source = Files.readString(Path.of("src/main/java/PaidByCoast.java"));
        for (int i = 0; i < source.length(); i++) {
            if (source.charAt(i) > 127) {
                DUE.that("letter " + i + " of the source is ASCII", false);
            }
        }
        String code = source.replaceAll("(?s)/\\*.*?\\*/", " ").replaceAll("//[^\n]*", " ");
        for (String forbidden : FORBIDDEN) {
            Matcher found = Pattern.compile(forbidden).matcher(code);
            DUE.that("no " + forbidden, !found.find());
        }
        Matcher library = Pattern.compile("\\b(Math|Integer|Long)\\.(\\w+)").matcher(code);
        while (library.find()) {
            DUE.that(library.group() + " is allowed", List.of("max", "min", "abs", "bitCount").contains(library.group(2)));
        }
        methodLengths(code);
    }

    private static void methodLengths(String code) {
        int start = 0;
        int number = 0;
        for (String line : code.split("\n")) {
            number++;
            if (line.matches(" {4}(?: {4})?\\w[^;=]*\\) \\{")) {
                start = number;
            }
            if (line.matches(" {4}(?: {4})?}") && start > 0) {
                DUE.that("the method at line " + start + " is short", number - start <= 60);
                start = 0;
            }
        }
    }
}
