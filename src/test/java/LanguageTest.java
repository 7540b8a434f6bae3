import java.io.IOException;
import java.lang.reflect.Constructor;
import java.lang.reflect.Field;
import java.lang.reflect.Method;
import java.lang.reflect.Modifier;
import java.nio.charset.StandardCharsets;
import java.nio.file.Files;
import java.nio.file.Paths;
import java.util.Arrays;
import java.util.List;
import java.util.Set;
import java.util.TreeSet;
import java.util.regex.Matcher;
import java.util.regex.Pattern;

/** The rules of LANGUAGE.md that can be seen from the source text or the compiled face. */
public final class LanguageTest {
    private static final Expect expect = new Expect("language");
    private static final List<String> FACE = Arrays.asList("setPrime(int)", "type(int)", "clearText()", "read(int)",
            "setCoefficient(int,int,int,int,int)", "coefficient(int,int,int,int)", "draw(int,int,int,int,int)",
            "plant(int,int,int)", "swap(int,int)", "combine(int,int,int,int,int,int)", "shift(int)",
            "value(int,int,int,int)", "degree(int,int)", "degreeAt(int,int,int)", "degreeDrops()", "size()",
            "entry(int,int,int)", "entryAt(int,int,int)", "rankAt(int)", "rank()", "pivotPoint()", "selected(boolean)",
            "rankDrops()", "condition()", "eliminantDegree(boolean)", "eliminant(boolean,int)",
            "eliminantAt(boolean,int)", "multiplicity(int)", "extraneous()", "commonRoots(int)", "commonRoot(int,int)",
            "solvable()", "kernel(int)", "recovered(int,boolean)", "confirmed(int)", "undo()", "count(int)", "digest()");
    private static final List<String> CONSTANTS = Arrays.asList("BAD", "STATE", "FULL", "NONE");
    private static final List<String> IMPORTS = Arrays.asList("java.util.ArrayList", "java.util.List",
            "java.util.Arrays", "java.util.Iterator");

    public static void main(String[] args) throws IOException {
        face();
        insideClasses();
        words(source());
        methodLengths();
        expect.finish();
    }

    private static void face() {
        Class<?> type = DixonEliminator.class;
        expect.holds("the class is public and final", type.getModifiers() == (Modifier.PUBLIC | Modifier.FINAL));
        Set<String> methods = new TreeSet<>();
        Set<String> hidden = new TreeSet<>();
        for (Method method : type.getDeclaredMethods()) {
            if (Modifier.isPrivate(method.getModifiers()) || method.isSynthetic()) {
                hidden.add(method.getName());
                continue;
            }
            StringBuilder signature = new StringBuilder(method.getName()).append('(');
            for (Class<?> parameter : method.getParameterTypes()) {
                signature.append(signature.charAt(signature.length() - 1) == '(' ? "" : ",").append(parameter.getName());
            }
            methods.add(signature.append(')').toString());
            boolean hash = method.getName().equals("digest");
            expect.holds("the type of " + method, method.getReturnType() == (hash ? long.class : int.class));
            expect.holds("the modifiers of " + method, method.getModifiers() == Modifier.PUBLIC);
        }
        expect.holds("the methods are those of the document: " + methods, methods.equals(new TreeSet<>(FACE)));
        for (String name : FACE) {
            String bare = name.substring(0, name.indexOf('('));
            expect.holds("no private method bears the name " + bare, !hidden.contains(bare));
        }
        for (Field field : type.getDeclaredFields()) {
            boolean constant = CONSTANTS.contains(field.getName())
                    && field.getModifiers() == (Modifier.PUBLIC | Modifier.STATIC | Modifier.FINAL);
            expect.holds("field " + field, constant || Modifier.isPrivate(field.getModifiers()));
        }
        Constructor<?>[] constructors = type.getDeclaredConstructors();
        expect.due("constructors", constructors.length, 1);
        expect.due("parameters of the constructor", constructors[0].getParameterCount(), 0);
    }

    private static void insideClasses() {
        Class<?>[] inside = DixonEliminator.class.getDeclaredClasses();
        expect.holds("at most twelve classes", inside.length < 12);
        Set<String> faceNames = new TreeSet<>();
        FACE.forEach(signature -> faceNames.add(signature.substring(0, signature.indexOf('('))));
        for (Class<?> type : inside) {
            int modifiers = type.getModifiers();
            boolean hidden = !Modifier.isPublic(modifiers) && !Modifier.isProtected(modifiers);
            expect.holds(type + " is hidden and static", hidden && Modifier.isStatic(modifiers));
            expect.due("classes inside " + type, type.getDeclaredClasses().length, 0);
            int fields = 0;
            for (Field field : type.getDeclaredFields()) {
                boolean constant = Modifier.isStatic(field.getModifiers());
                expect.holds(field + " is final if static", !constant || Modifier.isFinal(field.getModifiers()));
                fields += constant ? 0 : 1;
            }
            expect.holds(type + " has at most twenty fields", fields <= 20);
            for (Method method : type.getDeclaredMethods()) {
                expect.holds(method + " has at most seven parameters", method.getParameterCount() <= 7);
                boolean open = !Modifier.isPrivate(method.getModifiers());
                expect.holds(method + " bears no name of the face", open || !faceNames.contains(method.getName()));
            }
        }
    }

    private static String text() throws IOException {
        String path = System.getProperty("project.source", "src/main/java/DixonEliminator.java");
        return new String(Files.readAllBytes(Paths.get(path)), StandardCharsets.UTF_8);
    }

    // A method of the class ends at a brace that stands as far in as its head.
    private static void methodLengths() throws IOException {
        String[] lines = text().split("\n");
        for (int at = 0; at < lines.length; at++) {
            if (!lines[at].matches(" {4,8}(?! )(?!.*\\b(class|new)\\b).*\\) \\{")) {
                continue;
            }
            String end = lines[at].replaceAll("\\S.*", "") + "}";
            int last = at;
            while (last < lines.length && !lines[last].equals(end)) {
                last++;
            }
            expect.holds("at most sixty lines of" + lines[at], last - at < 60);
        }
    }

    private static String source() throws IOException {
        String text = text();
        String quiet = text.replaceAll("\"(?:[^\"\\\\\n]|\\\\.)*\"", "\"\"").replaceAll("'(?:[^'\\\\\n]|\\\\.)+'", "' '");
        return quiet.replaceAll("(?s)/\\*.*?\\*/", " ").replaceAll("//[^\n]*", " ");
    }

    private static void words(String source) {
        for (String word : new String[] {"throw", "throws", "try", "catch", "finally", "synchronized", "assert",
            "package", "System\\.(?!arraycopy\\b)\\w+", "Thread", "Random", "\\w+Exact"}) {
            Matcher matcher = Pattern.compile("\\b" + word + "\\b").matcher(source);
            expect.holds("the source has no " + word, !matcher.find());
        }
        expect.holds("the source has no method reference", !source.contains("::"));
        expect.holds("the source has no lambda", !source.contains("->"));
        Matcher imports = Pattern.compile("\\bimport\\s+([^;]+);").matcher(source);
        while (imports.find()) {
            expect.holds("import " + imports.group(1), IMPORTS.contains(imports.group(1).trim()));
        }
    }
}
