import java.io.IOException;
import java.lang.reflect.Constructor;
import java.lang.reflect.Field;
import java.lang.reflect.Method;
import java.lang.reflect.Modifier;
import java.nio.file.Files;
import java.nio.file.Path;
import java.util.HashSet;
import java.util.Set;
import java.util.TreeSet;
import java.util.regex.Matcher;
import java.util.regex.Pattern;

/** The face of the document, and the rules of LANGUAGE.md that can be looked up; the argument is the source. */
public final class FaceTest {
    private static final String[] METHODS = {
        "int setFire(int,int)", "int fill(int,int)", "int setRation(int)", "int start(int,int)", "int queue(int)",
        "int unqueue(int)", "int takeOut(int)", "int run(int)", "int type(char)", "int clearText()",
        "int perform()", "int stopped(int)", "int undo()", "int keep()", "int restore()", "int boiler(int,int)",
        "int machine(int,int)", "int line(int)", "int reason(int)", "int doneIn()", "int ifFires(int,int,int,int)",
        "int bestFires(int)", "int count(int)"};
    private static final String[] CONSTANTS = {
        "UNKNOWN=-1", "BAD_VALUE=-2", "FULL=-3", "NOT_POSSIBLE=-4", "NONE=-5", "NOT_STARTED=-10"};
    private static final String[] FORBIDDEN = {
        "\\bthrows?\\b", "\\btry\\b", "\\bcatch\\b", "\\bfinally\\b", "\\bsynchronized\\b", "\\bassert\\b",
        "\\bimport (?!java\\.util\\.(ArrayList|List|Arrays|Iterator);)", "\\bpackage\\b", "\\bstatic\\s*\\{",
        "(?m)^(?!\\s*(case|default)\\b).*->", "::", "Exact\\b", "\\bSystem\\.(?!arraycopy)",
        "\\+\\s*\"", "\"\\s*\\+", "[^\\x00-\\x7f]"};
    /** The language says "some sixty lines", "some twenty fields" and "some twelve classes". */
    private static final int SOME_LINES = 66;
    private static final int SOME_FIELDS = 22;
    private static final int SOME_CLASSES = 13;

    public static void main(String[] args) throws IOException, IllegalAccessException {
        Set<String> publicNames = new HashSet<>();
        methods(publicNames);
        constants();
        Constructor<?>[] constructors = SteamRations.class.getDeclaredConstructors();
        boolean one = constructors.length == 1 && constructors[0].getParameterCount() == 0;
        holds("one public constructor", one && Modifier.isPublic(constructors[0].getModifiers()));
        holds("a public final class", Modifier.isPublic(SteamRations.class.getModifiers())
            && Modifier.isFinal(SteamRations.class.getModifiers()));
        inside(publicNames);
        if (args.length > 0) {
            source(Files.readString(Path.of(args[0])));
        }
        Expect.end();
    }

    private static void holds(String rule, boolean does) {
        if (!does) {
            Expect.say("does not hold: " + rule);
        }
    }

    private static void methods(Set<String> publicNames) {
        Set<String> faces = new TreeSet<>();
        for (Method method : SteamRations.class.getDeclaredMethods()) {
            if (Modifier.isPrivate(method.getModifiers())) {
                continue;
            }
            holds(method + " is public, of the object", method.getModifiers() == Modifier.PUBLIC);
            StringBuilder face = new StringBuilder(method.getReturnType() + " " + method.getName() + "(");
            for (Class<?> type : method.getParameterTypes()) {
                face.append(face.charAt(face.length() - 1) == '(' ? "" : ",").append(type);
            }
            faces.add(face.append(")").toString());
            publicNames.add(method.getName());
        }
        holds("the public methods are those of the document, not " + faces, faces.equals(Set.of(METHODS)));
    }

    private static void constants() throws IllegalAccessException {
        Set<String> constants = new TreeSet<>();
        for (Field field : SteamRations.class.getDeclaredFields()) {
            int modifiers = field.getModifiers();
            if (!Modifier.isPrivate(modifiers)) {
                holds(field + " is public", Modifier.isPublic(modifiers));
                constants.add(field.getName() + "=" + field.getInt(null));
            }
            holds(field + " is final, or of an object", !Modifier.isStatic(modifiers) || Modifier.isFinal(modifiers));
        }
        holds("the constants are those of the document, not " + constants, constants.equals(Set.of(CONSTANTS)));
    }

    private static void inside(Set<String> publicNames) {
        Class<?>[] inside = SteamRations.class.getDeclaredClasses();
        holds("at most some 12 classes", inside.length < SOME_CLASSES);
        for (Class<?> type : inside) {
            int modifiers = type.getModifiers();
            holds(type + " is static", Modifier.isStatic(modifiers));
            holds(type + " is not public", !Modifier.isPublic(modifiers) && !Modifier.isProtected(modifiers));
            int fields = 0;
            for (Field field : type.getDeclaredFields()) {
                fields += Modifier.isStatic(field.getModifiers()) ? 0 : 1;
            }
            holds(type + " has at most some 20 fields", fields <= SOME_FIELDS);
            methodsOf(type, publicNames);
        }
        methodsOf(SteamRations.class, publicNames);
    }

    private static void methodsOf(Class<?> type, Set<String> publicNames) {
        for (Method method : type.getDeclaredMethods()) {
            boolean clash = Modifier.isPrivate(method.getModifiers()) && publicNames.contains(method.getName());
            holds(method + " has a name of its own", !clash);
            holds(method + " takes at most 7", method.getParameterCount() <= 7);
        }
    }

    private static void source(String source) {
        String code = source.replaceAll("(?s)/\\*.*?\\*/", "").replaceAll("//[^\n]*", "");
        for (String forbidden : FORBIDDEN) {
            Matcher matcher = Pattern.compile(forbidden).matcher(code);
            if (matcher.find()) {
                Expect.say("the language has no " + matcher.group());
            }
        }
        Matcher header = Pattern.compile("(?m)^ {4,8}(?:\\w+ )*(\\w+)\\([^;]*\\) \\{$").matcher(code);
        int from = 0;
        String name = "";
        while (header.find()) {
            method(name, code.substring(from, header.start()));
            from = header.start();
            name = header.group(1);
        }
        method(name, code.substring(from));
    }

    private static void method(String name, String body) {
        holds(name + "() has at most some 60 lines", name.isEmpty() || body.lines().count() <= SOME_LINES);
    }
}
