import java.lang.reflect.Constructor;
import java.lang.reflect.Field;
import java.lang.reflect.Method;
import java.lang.reflect.Modifier;
import java.nio.file.Files;
import java.nio.file.Path;
import java.util.Arrays;
import java.util.Set;
import java.util.TreeSet;
import java.util.regex.Matcher;
import java.util.regex.Pattern;

/** The public face of the document, and the rules of LANGUAGE.md that can be seen from outside. */
public final class FaceTest {
    private static final String[] METHODS = {
        "int narrow(int)", "int across(int,int)", "int coast(int,int)", "int to(int,int,int)",
        "int pieces(int)", "int piece(int,int,int)", "boolean paper(int,int)",
        "int drawn(int,int)", "int wet(int,int)", "int name(int,int,int,int)",
        "boolean strike(int)", "boolean may(int,int)", "int set(int)", "int cost(int)",
        "int told(int,int)", "boolean fresh(int)", "int edition()", "int printed(int)",
        "int count(int)"
    };
    private static final String[] FORBIDDEN = {
        "\\bthrow\\b", "\\bthrows\\b", "\\btry\\b", "\\bcatch\\b", "\\bsynchronized\\b",
        "\\bassert\\b", "->", "::", "\\bprotected\\b", "\\bvar\\b", "\\bpackage\\b",
        "Exact\\b", "\\bSystem\\.(?!arraycopy)", "\\bObject\\b", "MIN_VALUE", "MAX_VALUE"
    };

    public static void main(String[] args) throws Exception {
        Class<?> face = GlobeWorks.class;
        Check.due("NONE", GlobeWorks.NONE, -1);
        Check.due("public and final", face.getModifiers(), Modifier.PUBLIC | Modifier.FINAL);
        methods(face);
        constructors(face);
        fields(face);
        classesInside(face);
        if (args.length > 0) {
            words(Files.readString(Path.of(args[0])));
        }
        Check.end();
    }

    private static void methods(Class<?> face) {
        Set<String> found = new TreeSet<>();
        Set<String> publicNames = new TreeSet<>();
        for (Method method : face.getDeclaredMethods()) {
            if (Modifier.isPublic(method.getModifiers())) {
                String takes = Arrays.toString(method.getParameterTypes());
                found.add(method.getReturnType() + " " + method.getName()
                        + "(" + takes.substring(1, takes.length() - 1).replace(" ", "") + ")");
                publicNames.add(method.getName());
            }
        }
        Check.due("the public methods " + found, found.equals(new TreeSet<>(Arrays.asList(METHODS))), true);
        for (Method method : face.getDeclaredMethods()) {
            if (!Modifier.isPublic(method.getModifiers())) {
                Check.due("private " + method, Modifier.isPrivate(method.getModifiers()), true);
                Check.due("a name of its own " + method, publicNames.contains(method.getName()), false);
            }
            Check.due("at most seven parameters " + method, method.getParameterCount() <= 7, true);
        }
    }

    private static void constructors(Class<?> face) {
        Constructor<?>[] all = face.getDeclaredConstructors();
        Check.due("one constructor", all.length, 1);
        Check.due("of an int", Arrays.equals(all[0].getParameterTypes(), new Class<?>[] {int.class}), true);
        Check.due("public", Modifier.isPublic(all[0].getModifiers()), true);
    }

    private static void fields(Class<?> face) {
        int own = 0;
        for (Field field : face.getDeclaredFields()) {
            int is = field.getModifiers();
            boolean isNone = field.getName().equals("NONE");
            Check.due("private " + field, Modifier.isPrivate(is), !isNone);
            if (Modifier.isStatic(is)) {
                Check.due("final " + field, Modifier.isFinal(is), true);
            } else {
                own++;
            }
        }
        Check.due("at most twenty fields", own <= 20, true);
    }

    private static void classesInside(Class<?> face) {
        Class<?>[] inside = face.getDeclaredClasses();
        Check.due("at most twelve classes", inside.length < 12, true);
        for (Class<?> one : inside) {
            Check.due("static " + one, Modifier.isStatic(one.getModifiers()), true);
            Check.due("not public " + one, Modifier.isPublic(one.getModifiers()), false);
        }
    }

    private static void words(String source) {
        String code = source.replaceAll("(?s)/\\*.*?\\*/", " ").replaceAll("//[^\n]*", " ");
        for (String word : FORBIDDEN) {
            Matcher matcher = Pattern.compile(word).matcher(code);
            Check.due("the word " + word, matcher.find(), false);
        }
        for (String line : code.split("\n")) {
            if (line.startsWith("import ")) {
                Check.due(line, line.equals("import java.util.ArrayList;"), true);
            }
        }
        for (int k = 0; k < source.length(); k++) {
            if (source.charAt(k) > 127) {
                Check.due("sign " + k, source.charAt(k), 127);
            }
        }
    }
}
