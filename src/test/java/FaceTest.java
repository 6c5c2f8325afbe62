import java.io.IOException;
import java.lang.reflect.Constructor;
import java.lang.reflect.Field;
import java.lang.reflect.Method;
import java.lang.reflect.Modifier;
import java.nio.file.Files;
import java.nio.file.Path;
import java.util.Arrays;
import java.util.Set;
import java.util.TreeSet;
import java.util.regex.Matcher;
import java.util.regex.Pattern;

/** The public face, and those rules of LANGUAGE.md that a text or the class file shows. */
public final class FaceTest {
    private static final String[] FACE = {
        "put(int,int)", "part(int,boolean)", "law(int,int)", "unlaw()", "worlds(int,boolean)",
        "number(int,int)", "keeps(int,int)", "breaks(int,int)", "plain(int,int)", "list(int)",
        "world(int,int)", "make(int,int,int)", "yes(int,int,int,int)", "many(int)", "twin(int)",
        "butFor(int,int)", "look(int,int,int)", "never(int,int)", "deny(int,int)", "weigh(int,int)",
        "wake(int,boolean)", "worth(int,int)", "best()", "next()", "makeNext()", "needed(int)",
        "least()", "even()", "keep(int)", "same(int)", "shown(int,int)", "groups()", "first(int)",
        "count(int)"
    };
    private static final String[] CONSTANTS = {"UNKNOWN=-1", "OUTSIDE=-2", "STATE=-3", "FULL=-4", "NONE=-9"};
    private static final String[] RULED_OUT = {
        "\\bthrow\\b", "\\btry\\b", "\\bcatch\\b", "\\bsynchronized\\b", "\\bassert\\b", "->", "::",
        "Exact\\b", "\\bThread\\b", "\\bRandom\\b", "System\\.(?!arraycopy\\b)", "\\bpackage\\b",
        "import (?!java\\.util\\.(Arrays|ArrayList|List|Iterator);)", "\\bstatic\\s*\\{", "\\bString\\b"
    };
    private static int wrong = 0;

    public static void main(String[] args) throws Exception {
        members();
        constants();
        nestedClasses();
        sourceText();
        System.out.println(wrong == 0 ? "the face is the document's" : wrong + " faults of the face");
        if (wrong != 0) {
            System.exit(1);
        }
    }

    private static void fault(String what) {
        wrong++;
        System.out.println(what);
    }

    private static String signature(Method m) {
        StringBuilder text = new StringBuilder(m.getName()).append('(');
        for (Class<?> type : m.getParameterTypes()) {
            text.append(text.charAt(text.length() - 1) == '(' ? "" : ",").append(type.getName());
        }
        return text.append(')').toString();
    }

    private static void members() {
        int modifiers = SmallWorlds.class.getModifiers();
        if (!Modifier.isPublic(modifiers) || !Modifier.isFinal(modifiers)) {
            fault("the class is not public and final");
        }
        Set<String> want = new TreeSet<>(Arrays.asList(FACE));
        Set<String> names = new TreeSet<>();
        for (String signature : FACE) {
            names.add(signature.substring(0, signature.indexOf('(')));
        }
        Set<String> got = new TreeSet<>();
        for (Method m : SmallWorlds.class.getDeclaredMethods()) {
            if (Modifier.isPublic(m.getModifiers()) && m.getReturnType() == int.class) {
                got.add(signature(m));
            } else if (!Modifier.isPrivate(m.getModifiers())) {
                fault("a method that is neither of the face nor private: " + m);
            } else if (names.contains(m.getName())) {
                fault("a private method with a public one's name: " + m);
            }
        }
        if (!got.equals(want)) {
            fault("the methods are " + got + ", due are " + want);
        }
        Constructor<?>[] makers = SmallWorlds.class.getDeclaredConstructors();
        if (makers.length != 1 || makers[0].getParameterCount() != 0 || !Modifier.isPublic(makers[0].getModifiers())) {
            fault("the constructor is not the document's");
        }
    }

    private static void constants() throws IllegalAccessException {
        Set<String> got = new TreeSet<>();
        for (Field f : SmallWorlds.class.getDeclaredFields()) {
            int modifiers = f.getModifiers();
            if (Modifier.isPublic(modifiers)) {
                got.add(f.getName() + "=" + f.getInt(null));
            } else if (!Modifier.isPrivate(modifiers)) {
                fault("a field that is neither of the face nor private: " + f);
            }
        }
        if (!got.equals(new TreeSet<>(Arrays.asList(CONSTANTS)))) {
            fault("the constants are " + got);
        }
    }

    private static void nestedClasses() {
        Class<?>[] nested = SmallWorlds.class.getDeclaredClasses();
        if (nested.length > 11) {
            fault("too many classes: " + nested.length);
        }
        for (Class<?> c : nested) {
            int modifiers = c.getModifiers();
            if (!Modifier.isStatic(modifiers) || Modifier.isPublic(modifiers) || Modifier.isProtected(modifiers)) {
                fault("a class inside that is not static and hidden: " + c);
            }
            int fields = 0;
            for (Field f : c.getDeclaredFields()) {
                fields += Modifier.isStatic(f.getModifiers()) ? 0 : 1;
                if (Modifier.isStatic(f.getModifiers()) && !Modifier.isFinal(f.getModifiers())) {
                    fault("a static field that is not final: " + f);
                }
            }
            if (fields > 20) {
                fault("too many fields: " + c);
            }
            for (Method m : c.getDeclaredMethods()) {
                if (m.getParameterCount() > 7) {
                    fault("too many parameters: " + m);
                }
            }
        }
    }

    private static void sourceText() throws IOException {
        String text = Files.readString(Path.of("src/main/java/SmallWorlds.java"));
        text = text.replaceAll("(?s)/\\*.*?\\*/", "").replaceAll("//[^\n]*", "");
        for (String rule : RULED_OUT) {
            Matcher found = Pattern.compile(rule).matcher(text);
            if (found.find()) {
                fault("the source has what is ruled out: " + found.group());
            }
        }
    }
}
