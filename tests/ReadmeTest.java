import java.io.IOException;
import java.nio.file.Files;
import java.nio.file.Path;

/** The example of README.md: each line of it stands there, and answers what is said behind it. */
public final class ReadmeTest {
    private static final Check check = new Check("ReadmeTest");

    public static void main(String[] args) throws IOException {
        String readme = Files.readString(Path.of("README.md"));
        PouredScreen x = new PouredScreen();
        said(readme, "PouredScreen x = new PouredScreen();   // 10 columns, 4 rows\n");
        check.due("told(0)", x.told(0), 10);
        check.due("told(1)", x.told(1), 4);
        said(readme, "x.feed('a');                           // writes a sign; answers 0, the rows of the history\n");
        check.due("feed('a')", x.feed('a'), 0);
        said(readme, "x.feed('B');                           // A to Z take two cells\n");
        check.due("feed('B')", x.feed('B'), 0);
        check.due("told(9)", x.told(9), 3);
        said(readme, "x.feed(10);                            // a line feed\n");
        check.due("feed(10)", x.feed(10), 0);
        check.due("the cursor's row", x.cursor(0, 0), 1);
        said(readme, "x.resize(5, 3);                        // pours the lines into 5 columns; answers 2, their rows\n");
        check.due("resize(5, 3)", x.resize(5, 3), 2);
        said(readme, "int sign = x.cell(0, 1);               // 'B', as in cell(0, 2)\n");
        check.due("cell(0, 1)", x.cell(0, 1), 'B');
        check.due("cell(0, 2)", x.cell(0, 2), 'B');
        said(readme, "x.undo();                              // back to 10 columns; answers 3, the states still remembered\n");
        check.due("undo()", x.undo(), 3);
        check.due("told(0) behind undo()", x.told(0), 10);
        check.end();
    }

    private static void said(String readme, String line) {
        check.due("README.md has the line " + line.trim(), readme.contains("\n" + line) ? 1 : 0, 1);
    }
}
