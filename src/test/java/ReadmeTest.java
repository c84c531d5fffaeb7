import java.io.IOException;
import java.nio.file.Files;
import java.nio.file.Path;

/** What README.md shows: its example answers what it says there, and it names each call and each file of tests. */
public final class ReadmeTest {
    public static void main(String[] args) throws IOException {
        theExampleAnswersAsItSays();
        String text = Files.readString(Path.of("README.md"));
        for (var method : Threeboxes.class.getMethods()) {
            if (method.getDeclaringClass() == Threeboxes.class) {
                Check.same("README.md names " + method.getName(), text.contains("`" + method.getName() + "("), true);
            }
        }
        try (var files = Files.list(Path.of("src/test/java"))) {
            for (Path file : files.toList()) {
                String name = file.getFileName().toString().replace(".java", "");
                Check.same("README.md names " + name, text.contains("`" + name + "`"), true);
            }
        }
        Check.end();
    }

    private static void theExampleAnswersAsItSays() {
        Threeboxes bank = new Threeboxes();
        for (int k = 0; k < 5; k++) {
            Check.same("keeper()", bank.keeper(k % 3, 10, 5), k);
        }
        int secret = bank.deal(42, 3, 2, 0, 0b11111);
        Check.same("deal()", secret, 0);
        Check.same("open() by three", bank.open(secret, 0b00111), 42);
        Check.same("open() by two of one zone", bank.open(secret, 0b01001), -1);
        bank.lie(0, 5);
        Check.same("open() by four with a liar", bank.open(secret, 0b01111), -2);
        Check.same("open() by five with a liar", bank.open(secret, 0b11111), 42);
        Check.same("ofKeeper() of the liar", bank.ofKeeper(0, 4), 1);
        bank.lie(0, 0);
        Check.same("flood()", bank.flood(2), 1);
        Check.same("row() after a flood", bank.row(secret), "oo.oo");
        Check.same("rebuild()", bank.rebuild(secret, 2, 0b11011), 16);
        Check.same("fresh()", bank.fresh(secret, 0b01111), 1);
        Check.same("row() after a freshening", bank.row(secret), "oooos");
        bank.freeze(0, secret, true);
        Check.same("row() of one that is frozen", bank.row(secret), "oooos!");
        Check.same("isSound()", bank.isSound(), true);
    }
}
