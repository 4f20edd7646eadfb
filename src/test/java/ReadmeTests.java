import java.io.IOException;
import java.lang.reflect.Method;
import java.lang.reflect.Modifier;
import java.nio.file.Files;
import java.nio.file.Path;

/** README.md shows what is so: the example's answers stand there as the class gives them, and it names every call. */
public final class ReadmeTests extends Due {
    private static String page;
    // The example of the page from its text on: no call of the page may be left out here.
    private static int shown = 0;

    private static void shows(String call, String answer) {
        shown++;
        StringBuilder line = new StringBuilder(call).append(';');
        while (line.length() < 32) line.append(' ');
        due(call + " is shown with " + answer, page.contains("\n" + line + "// " + answer + "\n"), true);
    }

    private static void shows(String call, long answer) {
        shows(call, Long.toString(answer));
    }

    private static String between(String from, String to) {
        int start = page.indexOf(from) + from.length();
        return page.substring(start, page.indexOf(to, start));
    }

    private static void example() {
        about = "README: the example";
        ScreenRoom room = told(between("tell(room, \"", "\""));
        due("reed", letters("reed"), 609390592);
        shows("room.named(0, 609390592)", room.named(0, 609390592));
        shows("room.season(0, 3)", room.season(0, 3));
        shows("room.leaf(0, 1)", room.leaf(0, 1));
        shows("room.ahead(4, 1, 0)", room.ahead(4, 1, 0));
        shows("room.steps(0, 2, 2)", room.steps(0, 2, 2));
        shows("room.young(0, 2, 2)", room.young(0, 2, 2));
        shows("room.needed()", room.needed());
        shows("room.turn(0)", Boolean.toString(room.turn(0)));
        shows("room.undo()", room.undo());
        shows("room.keep()", room.keep());
        shows("room.go(10)", room.go(10));
        shows("room.folk(0, 4)", room.folk(0, 4));
        shows("room.back()", room.back());
        String calls = between("ScreenRoom room = new ScreenRoom();", "```");
        due("all that the page shows", calls.split("\nroom\\.").length - 1, shown);
    }

    private static void names() {
        about = "README: every call";
        for (Method method : ScreenRoom.class.getDeclaredMethods()) {
            if (Modifier.isPublic(method.getModifiers())) due(method.getName(), page.contains("`" + method.getName() + "`"), true);
        }
    }

    private static void tests() throws IOException {
        about = "README: every test";
        try (var files = Files.list(Path.of("src/test/java"))) {
            for (Path file : (Iterable<Path>) files::iterator) due(file.toString(), page.contains("`" + file.getFileName() + "`"), true);
        }
    }

    public static void main(String[] args) throws IOException {
        page = Files.readString(Path.of("README.md"));
        example();
        names();
        tests();
        end();
    }
}
