import java.io.IOException;
import java.nio.file.Files;
import java.nio.file.Path;
import java.util.regex.Matcher;
import java.util.regex.Pattern;

/** README.md's calls, in its order: each answers the number behind its comment's //. */
public final class ReadmeTest {
    private static final Check check = new Check("ReadmeTest");
    private static final Pattern ROW = Pattern.compile("(?m)^[xy]\\.(\\w+\\([^)]*\\)); +// (-?\\d+) ");
    private static Matcher rows;

    public static void main(String[] args) throws IOException {
        rows = ROW.matcher(Files.readString(Path.of("README.md")));
        calls();
        byText();
        check.due("a row more", rows.find() ? 1 : 0, 0);
        check.end();
    }

    private static void due(String call, long got) {
        boolean stands = rows.find() && rows.group(1).equals(call);
        check.due("the next row is " + call, stands ? 1 : 0, 1);
        if (stands) {
            check.due(call, got, Long.parseLong(rows.group(2)));
        }
    }

    private static void calls() {
        ClaySlips x = new ClaySlips();
        due("street(3)", x.street(3));
        due("water(0, 2)", x.water(0, 2));
        due("man(0, 0)", x.man(0, 0));
        for (int sign : new int[] {7, 9, 2, 1, 3, 0, 8}) {
            x.write(0, sign);
        }
        due("fault(0)", x.fault(0));
        due("stops()", x.stops());
        due("run(14, 1, 0)", x.run(14, 1, 0));
        due("image(0)", x.image(0));
        due("step()", x.step());
        due("of(0, 2)", x.of(0, 2));
        due("undo()", x.undo());
        due("from(0)", x.from(0));
        due("rubbed(0, 1)", x.rubbed(0, 1));
        due("rubbed(0, 2)", x.rubbed(0, 2));
        due("danger(0)", x.danger(0));
        due("thief(0, 2)", x.thief(0, 2));
        due("shortest(0, 1, 1, -1)", x.shortest(0, 1, 1, -1));
        due("shortest(0, 1, 1, 0)", x.shortest(0, 1, 1, 0));
        due("water(3, 0)", x.water(3, 0));
        due("status(0)", x.status(0));
    }

    private static void byText() {
        ClaySlips y = new ClaySlips();
        for (char c : "street 3; water 0 2; man 0 0; slip 0 \"(w+>-<)\";".toCharArray()) {
            y.type(c, 1);
        }
        due("read()", y.read());
        due("stops()", y.stops());
    }
}
