import java.io.IOException;
import java.lang.reflect.Constructor;
import java.lang.reflect.Field;
import java.lang.reflect.Method;
import java.lang.reflect.Modifier;
import java.nio.file.Files;
import java.nio.file.Path;
import java.util.Arrays;
import java.util.Set;
import java.util.TreeSet;
import java.util.regex.Matcher;
import java.util.regex.Pattern;

/** The face that the document gives, no more, and words that LANGUAGE.md rules out. */
public final class FaceTest {
    private static final Set<String> METHODS = new TreeSet<>(Set.of(
        "boolean code 4", "boolean data 2", "boolean bound 2", "int run 4", "int fork 4", "int of 2", "int clock 0",
        "int runs 0", "int again 1", "int loose 1", "int saved 4", "int pairs 5", "int pair 6", "int sure 6",
        "int best 3", "int holes 3", "int hole 5", "int idle 0", "int claim 1", "int claimed 2"));
    private static int wrong;

    private static void hold(boolean holds, String what) {
        if (!holds) {
            wrong++;
            System.out.println(what);
        }
    }

    private static void checkMethods() {
        Set<String> seen = new TreeSet<>();
        Set<String> names = new TreeSet<>();
        for (String method : METHODS) {
            names.add(method.split(" ")[1]);
        }
        for (Method method : TrialBook.class.getDeclaredMethods()) {
            if (Modifier.isPrivate(method.getModifiers())) {
                hold(!names.contains(method.getName()), "a private method has a public name: " + method);
                hold(method.getParameterCount() <= 7, "more than seven parameters: " + method);
                continue;
            }
            hold(Modifier.isPublic(method.getModifiers()), "not public, not private: " + method);
            hold(Arrays.stream(method.getParameterTypes()).allMatch(t -> t == int.class), "takes ints alone: " + method);
            seen.add(method.getReturnType() + " " + method.getName() + " " + method.getParameterCount());
        }
        hold(seen.equals(METHODS), "the methods are " + seen);
    }

    private static void checkRest() throws ReflectiveOperationException {
        hold(Modifier.isFinal(TrialBook.class.getModifiers()), "the class is final");
        Constructor<?>[] made = TrialBook.class.getDeclaredConstructors();
        hold(made.length == 1 && Modifier.isPublic(made[0].getModifiers()) && made[0].getParameterCount() == 0,
            "one public constructor");
        for (Field field : TrialBook.class.getDeclaredFields()) {
            int how = field.getModifiers();
            boolean isFace = field.getName().equals("NONE");
            hold(isFace ? Modifier.isPublic(how) : Modifier.isPrivate(how), "seen from outside: " + field);
            hold(!Modifier.isStatic(how) || Modifier.isFinal(how), "static and not final: " + field);
        }
        hold(TrialBook.class.getField("NONE").getInt(null) == -1, "NONE is -1");
        for (Class<?> inside : TrialBook.class.getDeclaredClasses()) {
            hold(Modifier.isStatic(inside.getModifiers()), "not static: " + inside);
        }
    }

    private static void checkWords() throws IOException {
        String path = System.getProperty("trialbook.source", "src/main/java/TrialBook.java");
        String text = Files.readString(Path.of(path)).replaceAll("(?s)/\\*.*?\\*/", "").replaceAll("//[^\n]*", "");
        Matcher found = Pattern.compile("\\b(throw|throws|try|catch|synchronized|assert|import|package|System\\.out)\\b|->|::")
            .matcher(text);
        while (found.find()) {
            hold(false, "LANGUAGE.md rules out: " + found.group());
        }
    }

    public static void main(String[] args) throws Exception {
        checkMethods();
        checkRest();
        checkWords();
        System.out.println(wrong == 0 ? "the face is as due" : wrong + " things are not as due");
        if (wrong != 0) {
            System.exit(1);
        }
    }
}
