import java.util.Arrays;

/** Boundaries of THE HEADER, THE BODY and FAULTS, in texts that come in and in those of a clerk: a method for each sentence. */
public final class HeaderBoundsTest {
    private static final int SOUND = 0;
    private static final int NUMBER = 1;
    private static final int LONG = 2;
    private static final int PRECEDENCE = 3;
    private static final int INDICATOR = 4;
    private static final Check check = new Check("HeaderBoundsTest");

    public static void main(String[] args) {
        upToTheFirstLineEnd();
        blanksBetweenWords();
        numberIsThreeDigits();
        numbersFrom001To999();
        rOrNot();
        precedenceIsOneDigit();
        precedencesFrom1To4();
        oneToFourIndicators();
        indicatorsOfFourLetters();
        bodyIsBehindTheLineEnd();
        noFirstWord();
        missingPrecedence();
        wrongWordInEachPlace();
        theFirstOfTheFaults();
        check.end();
    }

    private static RelayDesk desk() {
        RelayDesk desk = new RelayDesk();
        Desks.route(desk);
        return desk;
    }

    /** Looks at a header as it comes in, with LINE END, and as a clerk hands it in, with LINE END and without. */
    private static void due(int fault, String header) {
        RelayDesk desk = desk();
        int answer = Teleprinter.message(desk, 0, header + "\n");
        check.same(header + " coming in", answer, fault == SOUND ? RelayDesk.TAKEN : RelayDesk.CASE);
        check.same("its reason", desk.count(1) == 0 ? SOUND : desk.reason(1), fault);
        check.same("messages", desk.count(0), fault == SOUND ? 1 : 0);
        check.same("LAST", desk.receipt(0) == 999, fault == NUMBER);
        dueOfClerk(fault, header);
    }

    private static void dueOfClerk(int fault, String header) {
        for (String text : new String[] {header, header + "\n"}) {
            RelayDesk desk = desk();
            Desks.makeCases(desk, 1);
            Teleprinter.clerk(desk, 1, text);
            check.same(text + " handed in", desk.resubmit(1), fault);
            check.same("its reason", desk.reason(1), fault);
            check.same("messages", desk.count(0), fault == SOUND ? 1 : 0);
            check.same("on channel 1", Teleprinter.receive(desk, 1).isEmpty(), fault != SOUND);
        }
    }

    /** "THE HEADER is the text up to its first LINE END (or all of it)". */
    private static void upToTheFirstLineEnd() {
        due(NUMBER, "\n001 1 KILN");
        due(PRECEDENCE, "001\n1 KILN");
        due(PRECEDENCE, "001 R\n1 KILN");
        due(INDICATOR, "001 1\nKILN");
        due(SOUND, "001 1 KILN\nKI");
        due(SOUND, "001 1 KILN\n001 1 KILN");
        due(SOUND, "001 1 KILN\n\n");
    }

    /** "words parted by one or more blanks (also before and behind)". */
    private static void blanksBetweenWords() {
        due(NUMBER, "001R 1 KILN");
        due(NUMBER, "0011 KILN");
        due(PRECEDENCE, "001 R1 KILN");
        due(PRECEDENCE, "001 1KILN");
        due(INDICATOR, "001 1 KILNLOFT");
        due(SOUND, "001 R 1 KILN LOFT");
        due(SOUND, "001  R  1  KILN  LOFT");
        due(SOUND, "001   1   KILN   LOFT");
        due(SOUND, " 001 1 KILN");
        due(SOUND, "   001 1 KILN");
        due(SOUND, "001 1 KILN ");
        due(SOUND, "001 1 KILN   ");
        due(SOUND, " 001 R 4 KILN LOFT KILN LOFT ");
        due(INDICATOR, "001 1  ");
        due(PRECEDENCE, "001  ");
    }

    /** "a NUMBER, three digits". */
    private static void numberIsThreeDigits() {
        for (String other : new String[] {"1", "01", "0001", "1000", "A01", "0A1", "00A", "00.", "+01", "-01", "0 01", "00/", "00:"}) {
            due(NUMBER, other + " 1 KILN");
        }
        due(SOUND, "001 1 KILN");
    }

    /** "001 to 999"; 999 is IGNORED at first, which a word that is no NUMBER would not be. */
    private static void numbersFrom001To999() {
        due(NUMBER, "000 1 KILN");
        due(SOUND, "001 1 KILN");
        due(SOUND, "002 1 KILN");
        due(SOUND, "020 1 KILN");
        dueOfClerk(SOUND, "100 1 KILN");
        dueOfClerk(SOUND, "998 1 KILN");
        dueOfClerk(SOUND, "999 1 KILN");
        check.same("999 coming in", Teleprinter.message(desk(), 0, "999 1 KILN\n"), RelayDesk.IGNORED);
        check.same("998 coming in", Teleprinter.message(desk(), 0, "998 1 KILN\n"), RelayDesk.IGNORED);
    }

    /** "R, or not". */
    private static void rOrNot() {
        due(SOUND, "001 1 KILN");
        due(SOUND, "001 R 1 KILN");
        for (String other : new String[] {"R R", "RR", "Q", "S", "R1", "1R", "."}) {
            due(PRECEDENCE, "001 " + other + " 1 KILN");
        }
        due(NUMBER, "R 001 1 KILN");
        due(INDICATOR, "001 1 R KILN");
        due(INDICATOR, "001 1 KILN R");
        due(INDICATOR, "001 R 1 R");
    }

    /** "a PRECEDENCE, one digit". */
    private static void precedenceIsOneDigit() {
        for (String other : new String[] {"01", "10", "11", "44", "A", "KILN", ".", "/", "+", "R"}) {
            due(PRECEDENCE, "001 " + other + " KILN");
            due(PRECEDENCE, "001 R " + other + " KILN");
        }
    }

    /** "1 .. 4". */
    private static void precedencesFrom1To4() {
        for (int digit = 0; digit <= 9; digit++) {
            int fault = digit >= 1 && digit <= 4 ? SOUND : PRECEDENCE;
            due(fault, "001 " + digit + " KILN");
            due(fault, "001 R " + digit + " KILN");
        }
    }

    /** "1 to 4 INDICATORS"; "or there are none or more than 4". */
    private static void oneToFourIndicators() {
        String[] counts = {"", " KILN", " KILN LOFT", " KILN LOFT KILN", " KILN LOFT LOFT KILN", " KILN LOFT LOFT LOFT KILN",
            " KILN KILN KILN KILN KILN KILN"};
        for (int count = 0; count < counts.length; count++) {
            int fault = count >= 1 && count <= 4 ? SOUND : INDICATOR;
            due(fault, "001 1" + counts[count]);
            due(fault, "001 R 1" + counts[count]);
            due(fault, "001 1" + counts[count] + " ");
        }
    }

    /** "four letters each". */
    private static void indicatorsOfFourLetters() {
        for (String other : new String[] {"K", "KI", "KIL", "KILNS", "KILNKILN", "1ILN", "K1LN", "KI1N", "KIL1", "KIL.", "1234", "K-LN"}) {
            due(INDICATOR, "001 1 " + other);
        }
        RelayDesk desk = desk();
        Teleprinter.message(desk, 0, "001 1 AAAA ZZZZ\n");
        check.same("the first and the last letter", desk.count(0), 1);
    }

    /** "THE BODY is what is behind the LINE END." With none, an empty one, one character, one LINE END. */
    private static void bodyIsBehindTheLineEnd() {
        String[] typed = {"", "\n", "\nA", "\n\n", "\nA\n", "\n\nA", "\n ", "\nNNNN", "\nA\n\n"};
        String[] sent = {"", "", "A\n", "\n", "A\n", "\nA\n", " \n", "NNNN\n", "A\n\n"};
        for (int i = 0; i < typed.length; i++) {
            RelayDesk desk = desk();
            Desks.makeCases(desk, 1);
            Teleprinter.clerk(desk, 1, "001 1 KILN" + typed[i]);
            check.same("handed in", desk.resubmit(1), SOUND);
            String due = Arrays.toString(Teleprinter.signsOf("001 1 KILN\n" + sent[i] + "NNNN\n"));
            check.same("the body behind " + typed[i], Arrays.toString(Teleprinter.signsSent(desk, 1)), due);
        }
    }

    /** "NUMBER (1): there is no first word, or it is none." */
    private static void noFirstWord() {
        due(NUMBER, "");
        due(NUMBER, " ");
        due(NUMBER, "    ");
        due(NUMBER, "\n");
        due(NUMBER, "KILN");
        due(NUMBER, "1 KILN");
    }

    /** "PRECEDENCE (3): the next word is none or missing (behind R, if there is one)." */
    private static void missingPrecedence() {
        due(PRECEDENCE, "001");
        due(PRECEDENCE, "001 ");
        due(PRECEDENCE, "001 R");
        due(PRECEDENCE, "001 R ");
        due(PRECEDENCE, "001 KILN");
        due(PRECEDENCE, "001 R KILN");
    }

    /** "INDICATOR (4): a further word is none". */
    private static void wrongWordInEachPlace() {
        for (String wrong : new String[] {"KIL", "KILNS", "1", "KIL1"}) {
            due(INDICATOR, "001 1 " + wrong);
            due(INDICATOR, "001 1 " + wrong + " KILN");
            due(INDICATOR, "001 1 KILN " + wrong);
            due(INDICATOR, "001 1 KILN KILN " + wrong);
            due(INDICATOR, "001 1 KILN KILN KILN " + wrong);
            due(INDICATOR, "001 1 KILN KILN KILN KILN " + wrong);
        }
    }

    /** "FAULTS, the first of them": NUMBER, LONG, PRECEDENCE, INDICATOR. */
    private static void theFirstOfTheFaults() {
        due(NUMBER, "000 5 KIL");
        due(NUMBER, "000 1 KIL");
        due(PRECEDENCE, "001 5 KIL");
        due(PRECEDENCE, "001 R 5");
        String more = "\n" + "X".repeat(60) + "\n";
        String[] headers = {"000 5 KIL", "00 1 KILN", "001 5 KIL", "001", "001 1 KIL", "001 1", "001 1 KILN", "001 1 YARD"};
        int[] faults = {NUMBER, NUMBER, LONG, LONG, LONG, LONG, LONG, LONG};
        for (int i = 0; i < headers.length; i++) {
            RelayDesk desk = desk();
            check.same("more than 60", Teleprinter.message(desk, 0, headers[i] + more), RelayDesk.CASE);
            check.same("the fault of " + headers[i] + " and more than 60", desk.reason(1), faults[i]);
            check.same("one case", desk.count(1), 1);
            check.same("no message", desk.count(0), 0);
        }
    }
}
