import java.io.IOException;
import java.lang.reflect.Field;
import java.lang.reflect.Method;
import java.lang.reflect.Modifier;
import java.nio.file.Files;
import java.nio.file.Path;
import java.util.List;
import java.util.regex.Matcher;
import java.util.regex.Pattern;

/** The examples of README.md answer what it says, and it names the whole face; the third argument is its path. */
public final class ReadmeTest {
    private static final Pattern EXAMPLE = Pattern.compile("laundry\\.(\\w+)\\((.*)\\); +// (-?\\d+|[A-Z_]+)(:.*)?");
    private static final Pattern CHARACTER = Pattern.compile("'(.)'");

    public static void main(String[] args) throws IOException, ReflectiveOperationException {
        Path readme = Path.of(args.length > 2 ? args[2] : "README.md");
        if (Files.isReadable(readme)) {
            examples(Files.readAllLines(readme));
            names(Files.readString(readme));
        } else {
            Expect.say("there is no " + readme);
        }
        Expect.end();
    }

    private static void examples(List<String> lines) throws ReflectiveOperationException {
        SteamRations laundry = null;
        int replayed = 0;
        for (String line : lines) {
            if (line.equals("SteamRations laundry = new SteamRations();")) {
                laundry = new SteamRations();
            }
            if (line.startsWith("laundry.")) {
                replay(laundry, line);
                replayed++;
            }
        }
        if (replayed == 0) {
            Expect.say("README.md has no examples");
        }
    }

    private static void replay(SteamRations laundry, String line) throws ReflectiveOperationException {
        Matcher example = EXAMPLE.matcher(line);
        if (laundry == null || !example.matches()) {
            Expect.say("README.md: this can't be replayed: " + line);
            return;
        }
        for (Method method : SteamRations.class.getDeclaredMethods()) {
            if (method.getName().equals(example.group(1)) && Modifier.isPublic(method.getModifiers())) {
                int got = (Integer) method.invoke(laundry, arguments(example.group(2)));
                Expect.due("README.md: " + line, got, number(example.group(3)));
                return;
            }
        }
        Expect.say("README.md: there is no such call: " + line);
    }

    private static Object[] arguments(String list) {
        Matcher character = CHARACTER.matcher(list);
        if (character.matches()) {
            return new Object[] {character.group(1).charAt(0)};
        }
        String[] numbers = list.isEmpty() ? new String[0] : list.split(", ");
        Object[] arguments = new Object[numbers.length];
        for (int i = 0; i < numbers.length; i++) {
            arguments[i] = Integer.parseInt(numbers[i]);
        }
        return arguments;
    }

    private static int number(String word) throws ReflectiveOperationException {
        boolean isName = Character.isUpperCase(word.charAt(0));
        return isName ? SteamRations.class.getField(word).getInt(null) : Integer.parseInt(word);
    }

    private static void names(String readme) {
        for (Method method : SteamRations.class.getDeclaredMethods()) {
            if (Modifier.isPublic(method.getModifiers()) && !readme.contains("`" + method.getName() + "(")) {
                Expect.say("README.md does not tell of " + method.getName());
            }
        }
        for (Field field : SteamRations.class.getFields()) {
            if (!readme.contains("`" + field.getName() + "`")) {
                Expect.say("README.md does not tell of " + field.getName());
            }
        }
    }
}
