import java.io.IOException;
import java.lang.reflect.Constructor;
import java.lang.reflect.Field;
import java.lang.reflect.Method;
import java.lang.reflect.Modifier;
import java.nio.file.Files;
import java.nio.file.Path;
import java.util.ArrayList;
import java.util.List;
import java.util.Set;
import java.util.TreeSet;
import java.util.regex.Matcher;
import java.util.regex.Pattern;

/**
 * Looks at the program for what ../shared/LANGUAGE.md rules out, as far as a look at its words can tell, and
 * holds its face against that of ../shared/DOC.md. Arguments: the program, LANGUAGE.md's folder.
 */
public final class LanguageTest {
    private static final int LONGEST_METHOD = 60;
    private static final int MOST_CLASSES = 12;
    private static final int MOST_FIELDS = 20;
    private static final String[] RULED_OUT = {"\\bthrow\\b", "\\bthrows\\b", "\\btry\\b", "\\bcatch\\b", "\\bfinally\\b",
        "\\bsynchronized\\b", "\\bassert\\b", "\\bvolatile\\b", "\\bnative\\b", "->", "::", "\\bstatic\\s*\\{", "Exact\\s*\\(",
        "\\.\\s*(equals|hashCode|toString|getClass|wait|notify|stream|forEach)\\s*\\(", "\\bSystem\\s*\\.\\s*(?!arraycopy\\b)",
        "\\bnew\\s+\\w+\\s*\\([^()]*\\)\\s*\\{", "\\b(Object|Random|Thread|Map|HashMap|Set|Float|Double|Character|Boolean)\\b",
        "\\bjava\\s*\\.\\s*(?!util\\s*\\.\\s*Arrays\\s*;)", "\\bvar\\b", "\\bgoto\\b", "@", "\\bwhile\\s*\\(\\s*true", "\\bfor\\s*\\(\\s*;\\s*;"};

    private static int wrong = 0;

    public static void main(String[] args) throws IOException {
        String program = Files.readString(Path.of(args[0]));
        String bare = withoutCommentsAndTexts(program);
        lookForWords(bare);
        lookAtMethods(bare);
        lookAtFace(Files.readString(Path.of(args[1], "DOC.md")));
        lookAtClasses();
        System.out.println(wrong == 0 ? "the program keeps to the language" : wrong + " faults against the language");
        if (wrong != 0) {
            System.exit(1);
        }
    }

    private static void fault(boolean is, String what) {
        if (is) {
            wrong++;
            System.out.println(what);
        }
    }

    private static String withoutCommentsAndTexts(String program) {
        String bare = Pattern.compile("/\\*.*?\\*/", Pattern.DOTALL).matcher(program).replaceAll("");
        return bare.replaceAll("//[^\n]*", "").replaceAll("'(\\\\.|[^'\\\\])'", "'c'").replaceAll("\"(\\\\.|[^\"\\\\])*\"", "\"\"");
    }

    private static void lookForWords(String bare) {
        for (String out : RULED_OUT) {
            Matcher m = Pattern.compile(out).matcher(bare);
            while (m.find()) {
                fault(true, "ruled out: " + m.group().trim());
            }
        }
        fault(bare.contains("package "), "a package line");
        for (char c : bare.toCharArray()) {
            fault(c > 126, "a sign above 126");
        }
    }

    private static void lookAtMethods(String bare) {
        Pattern head = Pattern.compile("\n( +)((?:public|private|static|final|abstract) )*[\\w\\[\\]]+ ?(\\w*)\\(([^()]*)\\) \\{\n");
        Matcher m = head.matcher(bare);
        int methods = 0;
        while (m.find()) {
            methods++;
            int end = bare.indexOf("\n" + m.group(1) + "}", m.end() - 1);
            long lines = bare.substring(m.start(), end).lines().count();
            fault(lines > LONGEST_METHOD, "a method of " + lines + " lines: " + m.group().trim());
            fault(m.group(4).split(",").length > 7, "more than seven parameters: " + m.group().trim());
        }
        fault(methods < 100, "the look at methods found only " + methods);
    }

    private static void lookAtFace(String document) {
        String face = document.substring(document.indexOf("```java"));
        face = face.substring(0, face.indexOf("}\n```"));
        Set<String> due = new TreeSet<>();
        Matcher m = Pattern.compile("public (int|long) (\\w+)\\(([^()]*)\\);").matcher(face);
        while (m.find()) {
            due.add(m.group(1) + " " + m.group(2) + "(" + m.group(3).replaceAll(" \\w+(,|$)", "$1").replace(" ", "") + ")");
        }
        Set<String> names = new TreeSet<>();
        Set<String> is = new TreeSet<>();
        for (Method method : FeatureDesk.class.getDeclaredMethods()) {
            if (Modifier.isPrivate(method.getModifiers())) {
                continue;
            }
            names.add(method.getName());
            List<String> types = new ArrayList<>();
            for (Class<?> type : method.getParameterTypes()) {
                types.add(type.getName());
            }
            is.add(method.getReturnType().getName() + " " + method.getName() + "(" + String.join(",", types) + ")");
        }
        fault(due.size() != 48, "the document's face has " + due.size() + " methods");
        fault(!due.equals(is), "the face is " + is + ", due is " + due);
        for (Method method : FeatureDesk.class.getDeclaredMethods()) {
            boolean hidden = Modifier.isPrivate(method.getModifiers());
            fault(hidden && names.contains(method.getName()), "a private method with a public one's name: " + method.getName());
        }
    }

    private static void lookAtClasses() {
        Class<?>[] inside = FeatureDesk.class.getDeclaredClasses();
        fault(inside.length + 1 > MOST_CLASSES, "too many classes: " + (inside.length + 1));
        fault(FeatureDesk.class.getModifiers() != (Modifier.PUBLIC | Modifier.FINAL), "the class is not public and final alone");
        for (Constructor<?> c : FeatureDesk.class.getDeclaredConstructors()) {
            fault(c.getModifiers() != Modifier.PUBLIC || c.getParameterCount() != 0, "constructor " + c);
        }
        lookAtFields(FeatureDesk.class, true);
        for (Class<?> c : inside) {
            fault(!Modifier.isStatic(c.getModifiers()) || Modifier.isPublic(c.getModifiers()), "class " + c);
            lookAtFields(c, false);
        }
    }

    private static void lookAtFields(Class<?> c, boolean outer) {
        int own = 0;
        for (Field field : c.getDeclaredFields()) {
            int modifiers = field.getModifiers();
            own += Modifier.isStatic(modifiers) ? 0 : 1;
            fault(Modifier.isStatic(modifiers) && !Modifier.isFinal(modifiers), "a static field that may change: " + field);
            boolean hidden = Modifier.isPrivate(modifiers) || field.getName().equals("NONE");
            fault(outer && !hidden, "a field that is not private: " + field);
        }
        fault(own > MOST_FIELDS, c + " has " + own + " fields");
    }
}
