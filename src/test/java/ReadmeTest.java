import java.io.IOException;
import java.nio.file.Files;
import java.nio.file.Path;
import java.util.List;

/** Runs the example that README.md shows, and looks whether README.md still shows these very lines. */
public final class ReadmeTest {
    private static final String SOURCE = "src/test/java/ReadmeTest.java";
    private static final String INDENT = "        ";

    private final Check check = new Check("ReadmeTest");

    public static void main(String[] args) throws IOException {
        ReadmeTest test = new ReadmeTest();
        test.exampleAnswersAsItSays();
        test.readmeShowsTheExample();
        test.check.end();
    }

    private void exampleAnswersAsItSays() {
        // example begins
        RelayDesk desk = new RelayDesk();
        desk.route(181467, 1, 2);                // KILN goes to channel 1, or to 2 while 1 is closed
        desk.group(220822, 181467);              // MORE is a GROUP; so far KILN alone is in it

        int[] tape = {29, 0, 0, 1, 26, 3, 26,    // shift to FIGURES, 001, blank, 3, blank
            28, 12, 14, 17, 4, 27,               // shift to LETTERS, MORE, LINE END
            7, 4, 11, 11, 14, 27,                // HELLO, LINE END
            13, 13, 13, 13, 27};                 // NNNN, LINE END: the END
        int brought = 0;
        for (int s : tape) {
            brought = desk.sign(0, s);           // 0, at the END RelayDesk.TAKEN
        }
        int last = desk.receipt(0);              // 1: channel 0 took 001 last
        int waiting = desk.queued(1, 3);         // 1: message 1 waits on channel 1

        int signs = 0;
        while (desk.send(1) != RelayDesk.NONE) { // what goes out is 001 3 MORE, HELLO, NNNN
            signs++;                             // 24 in the end
        }
        int number = desk.trace(1, 1);           // 1: message 1 was SENT on channel 1 as 001
        boolean again = desk.rerun(1, 1);        // true: next goes 001 R 3 MORE, HELLO, NNNN

        int faulty = 0;
        for (int s : new int[] {13, 13, 13, 13, 27}) {
            faulty = desk.sign(0, s);            // an END without a text: RelayDesk.CASE
        }
        int reason = desk.reason(1);             // 1: case 1 has no NUMBER
        for (char c : "002 1 KILN\nSORRY".toCharArray()) {
            desk.clerk(1, c);
        }
        int fault = desk.resubmit(1);            // 0: it is message 2, and case 1 is closed
        // example ends
        check.same("brought", brought, RelayDesk.TAKEN);
        check.same("last", last, 1);
        check.same("waiting", waiting, 1);
        check.same("signs", signs, 24);
        check.same("number", number, 1);
        check.same("again", again, true);
        check.same("faulty", faulty, RelayDesk.CASE);
        check.same("reason", reason, 1);
        check.same("fault", fault, 0);
        check.same("messages", desk.count(0), 2);
        check.same("cases not closed", desk.count(2), 0);
        check.same("sent again", Teleprinter.receive(desk, 1), "001 R 3 MORE\nHELLO\nNNNN\n");
        check.same("the clerk's", Teleprinter.receive(desk, 1), "002 1 KILN\nSORRY\nNNNN\n");
    }

    private void readmeShowsTheExample() throws IOException {
        List<String> source = Files.readAllLines(Path.of(SOURCE));
        List<String> example = source.subList(source.indexOf(INDENT + "// example begins") + 1,
            source.indexOf(INDENT + "// example ends"));
        StringBuilder shown = new StringBuilder("```java\n");
        for (String line : example) {
            shown.append(line.startsWith(INDENT) ? line.substring(INDENT.length()) : line).append('\n');
        }
        shown.append("```\n");
        check.same("README.md shows the example", Files.readString(Path.of("README.md")).contains(shown), true);
    }
}
