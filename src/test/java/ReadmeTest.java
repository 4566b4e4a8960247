import java.io.IOException;
import java.lang.reflect.Field;
import java.lang.reflect.Method;
import java.lang.reflect.Modifier;
import java.nio.file.DirectoryStream;
import java.nio.file.Files;
import java.nio.file.Path;

/** README.md: its examples, copied here, answer what it says, and it names all there is. */
public final class ReadmeTest {
    private static final Check CHECK = new Check();

    public static void main(String[] args) throws IOException, IllegalAccessException {
        examples();
        String text = Files.readString(Path.of("README.md"));
        namesTheFace(text);
        namesTheTests(text);
        CHECK.finish();
    }

    private static void examples() {
        CHECK.part("README.md, first example");
        TornBackups x = new TornBackups();
        CHECK.due("set", x.set(0, 5, 20), 1);
        CHECK.due("commit", x.commit(0), 2);
        int number = x.backup();
        CHECK.due("backup", number, 0);
        for (int left = 7; left >= 0; left--) {
            CHECK.due("copy", x.copy(), left);
        }
        CHECK.due("restore", x.restore(number, x.bound(number, 1)), 0);
        CHECK.due("restored", x.restored(5), 20);

        CHECK.part("README.md, second example");
        for (int i = 0; i < 3; i++) {
            CHECK.due("set", x.set(1, 5, 30 + i), 3 + 2 * i);
            CHECK.due("commit", x.commit(1), 4 + 2 * i);
        }
        CHECK.due("reach before", x.reach(number), 2);
        CHECK.due("restore before", x.restore(number, 6), TornBackups.MISSING);
        CHECK.due("sync", x.sync(), 6);
        CHECK.due("archive", x.archive(), 0);
        CHECK.due("reach", x.reach(number), 8);
        CHECK.due("restore", x.restore(number, 6), 0);
        CHECK.due("restored", x.restored(5), 31);
        CHECK.due("replayed", x.replayed(), 4);
        CHECK.due("get", x.get(5), 32);
    }

    private static void namesTheFace(String text) throws IllegalAccessException {
        CHECK.part("README.md names");
        for (Method method : TornBackups.class.getDeclaredMethods()) {
            if (Modifier.isPublic(method.getModifiers())) {
                CHECK.due(method.getName(), text.contains("`" + method.getName() + "`"), true);
            }
        }
        for (Field field : TornBackups.class.getFields()) {
            String row = "| `" + field.getName() + "` (" + field.getInt(null) + ") |";
            CHECK.due(row, text.contains(row), true);
        }
    }

    private static void namesTheTests(String text) throws IOException {
        CHECK.part("README.md names the test");
        try (DirectoryStream<Path> files = Files.newDirectoryStream(Path.of("src/test/java"), "*Test.java")) {
            for (Path file : files) {
                String name = file.getFileName().toString().replace(".java", "");
                CHECK.due(name, text.contains("| " + name + " |"), true);
            }
        }
    }
}
