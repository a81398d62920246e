import java.io.IOException;
import java.lang.reflect.Method;
import java.lang.reflect.Modifier;
import java.net.URL;
import java.net.URLClassLoader;
import java.nio.file.Files;
import java.nio.file.Path;
import java.util.ArrayList;
import java.util.List;
import java.util.regex.Matcher;
import java.util.regex.Pattern;
import javax.tools.ToolProvider;

/** What README.md says about the use of the class: its example answers what stands there, and its tables hold. */
public final class Readme {
    private static final Pattern ANSWER = Pattern.compile("(?m)^( +)(t\\.(\\w+)\\(.*\\));( +// )(-?\\d+):.*$");
    private static final Pattern CODE = Pattern.compile("`([^`]+)`");

    private Readme() {
    }

    public static void main(String[] args) throws Exception {
        Desk.where = "README.md";
        String page = Files.readString(Path.of("README.md"));
        runExample(between(page, "```java\n", "```"));
        readTable(between(page, "| A pattern ", "\n\n"), true);
        readTable(between(page, "| A statement ", "\n\n"), false);
        lookForNames(between(page, "## Use", "## Tests"));
        lookForConstants(page);
        lookForMethods(between(page, "| Calls ", "\n\n"));
        System.out.println("Readme: " + Desk.answers + " answers, " + Desk.wrong + " wrong");
        if (Desk.wrong > 0) {
            System.exit(1);
        }
    }

    private static String between(String page, String from, String to) {
        int start = page.indexOf(from);
        int end = start < 0 ? -1 : page.indexOf(to, start + from.length());
        Desk.due("a part that begins with " + from.strip(), end < 0 ? 0 : 1, 1);
        return end < 0 ? "" : page.substring(start + from.length(), end);
    }

    /** The example calls this in place of the calls behind which a number stands. */
    public static void answered(String call, long got, long want) {
        Desk.due(call, got, want);
    }

    private static void runExample(String example) throws Exception {
        String asked = ANSWER.matcher(example).replaceAll("$1Readme.answered(\"$3\", $2, $5);");
        int answers = Desk.answers;
        Path folder = Files.createTempDirectory("readme");
        try {
            Path file = Files.writeString(folder.resolve("Example.java"), asked);
            int exit = ToolProvider.getSystemJavaCompiler().run(null, null, null, "-Xlint:all", "-Werror", "-cp",
                    System.getProperty("java.class.path"), "-d", folder.toString(), file.toString());
            Desk.due("the exit code of the compiler", exit, 0);
            if (exit == 0) {
                URL[] places = {folder.toUri().toURL()};
                try (URLClassLoader loader = new URLClassLoader(places, Readme.class.getClassLoader())) {
                    loader.loadClass("Example").getMethod("main", String[].class).invoke(null, (Object) new String[0]);
                }
            }
        } finally {
            delete(folder);
        }
        long lines = example.lines().filter(line -> line.contains("//")).count();
        Desk.due("how many answers are compared", Desk.answers - answers - 1, lines);
    }

    private static void delete(Path folder) throws IOException {
        List<Path> files = new ArrayList<>();
        try (var found = Files.list(folder)) {
            found.forEach(files::add);
        }
        files.add(folder);
        for (Path file : files) {
            Files.delete(file);
        }
    }

    /** What stands in the first column can be read. */
    private static void readTable(String table, boolean patterns) {
        String[] rows = table.split("\n");
        Desk.due("rows of a table", rows.length > 7 ? 1 : 0, 1);
        for (int i = 2; i < rows.length; i++) {
            Matcher m = CODE.matcher(rows[i].replace("\\|", "/").split("\\|")[1].replace('/', patterns ? '|' : '/'));
            int before = Desk.answers;
            while (m.find()) {
                String text = m.group(1);
                int answer = patterns ? new Desk().pattern(0, text.replace('x', 'a').replace('y', 'b'))
                        : new Desk().program(text.replace('V', 'y').replace('i', '0').replace("..", ""));
                Desk.due(text + " can be read", answer > 0 ? 1 : 0, 1);
            }
            Desk.due("something stands in " + rows[i], Desk.answers > before ? 1 : 0, 1);
        }
    }

    private static void lookForNames(String use) {
        for (Method m : TextValues.class.getDeclaredMethods()) {
            if (Modifier.isPublic(m.getModifiers())) {
                String name = m.getName();
                Desk.due(name + " is named", use.contains("`" + name + "`") ? 1 : 0, 1);
            }
        }
    }

    private static void lookForConstants(String page) throws IllegalAccessException {
        for (var field : TextValues.class.getFields()) {
            String name = field.getName();
            String there = name.equals("ENDLESS") ? field.getInt(null) + ": there is no longest one (" + name + ")"
                    : "`" + name + "` " + field.getInt(null) + " ";
            Desk.due(name + " stands there", page.contains(there) ? 1 : 0, 1);
        }
    }

    private static void lookForMethods(String table) {
        Matcher m = CODE.matcher(table);
        while (m.find()) {
            String name = m.group(1);
            boolean known = false;
            for (Method method : TextValues.class.getMethods()) {
                known |= method.getName().equals(name);
            }
            Desk.due(name + " is a method", known ? 1 : 0, 1);
        }
    }
}
