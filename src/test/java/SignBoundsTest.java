/** Boundaries of SIGNS and of COMING IN, and what a new object is (promises 1 and 2): a method for each sentence. */
public final class SignBoundsTest {
    private static final int BLANK = 26;
    private static final int LINE_END = 27;
    private static final int TO_LETTERS = 28;
    private static final int TO_FIGURES = 29;
    private static final int SIGN_OF_N = 13;
    private static final String HEADER = "001 1 KILN\n";
    private static final Check check = new Check("SignBoundsTest");

    public static void main(String[] args) {
        openAtFirst();
        lettersFromFirstToLast();
        figuresFromFirstToLast();
        blankAndLineEndInBothShifts();
        shiftToWhereItIs();
        signsThatAreNothing();
        nothingsDoNotCount();
        fromLettersOn();
        lineOfJustFourNs();
        fourFiguresAreNoEnd();
        emptyText();
        textOfSixty();
        theEndsLineDoesNotCount();
        textsFarBeyondSixty();
        thoseBeyondAreNotKept();
        thenTheNextBegins();
        everyChannelGathersForItself();
        closedAnswersNone();
        upToTheLastCall();
        check.end();
    }

    private static RelayDesk desk() {
        RelayDesk desk = new RelayDesk();
        Desks.route(desk);
        return desk;
    }

    private static int typeSigns(RelayDesk desk, int... signs) {
        int answer = 0;
        for (int s : signs) {
            check.same("no END before the last sign", answer, 0);
            answer = desk.sign(0, s);
        }
        return answer;
    }

    private static int typeEnd(RelayDesk desk) {
        return typeSigns(desk, SIGN_OF_N, SIGN_OF_N, SIGN_OF_N, SIGN_OF_N, LINE_END);
    }

    /** What a channel makes of signs behind a header, which leaves it in LETTERS. */
    private static String bodyOf(int... signs) {
        RelayDesk desk = desk();
        Teleprinter.type(desk, 0, HEADER);
        typeSigns(desk, signs);
        typeSigns(desk, LINE_END, TO_LETTERS);
        check.same("is taken", typeEnd(desk), RelayDesk.TAKEN);
        String whole = Teleprinter.receive(desk, 1);
        return whole.substring(HEADER.length(), whole.length() - "\nNNNN\n".length());
    }

    /** "CHANNELS are 0 .. 7, open or closed (open at first)." "All as said, without routes." */
    private static void openAtFirst() {
        for (int channel = 0; channel < 8; channel++) {
            check.same("open at first", new RelayDesk().open(channel, false), true);
            check.same("a first sign", new RelayDesk().sign(channel, 0), 0);
            RelayDesk desk = new RelayDesk();
            check.same("without routes", Teleprinter.message(desk, channel, HEADER), RelayDesk.TAKEN);
            check.same("a case for that", desk.reason(1), 5);
        }
    }

    /** "in LETTERS 0 .. 25 are A .. Z". */
    private static void lettersFromFirstToLast() {
        for (int s = 0; s <= 25; s++) {
            check.same("sign " + s, bodyOf(s), "" + (char) ('A' + s));
        }
    }

    /** "in FIGURES 0 .. 9 are the digits, 10 .. 20 are . , - / ( ) ? : ' + = and 21 .. 25 are nothing". */
    private static void figuresFromFirstToLast() {
        String figures = "0123456789.,-/()?:'+=";
        for (int s = 0; s <= 25; s++) {
            check.same("sign " + s, bodyOf(TO_FIGURES, s), s <= 20 ? figures.substring(s, s + 1) : "");
        }
    }

    /** "in both 26 is a blank, 27 a LINE END". */
    private static void blankAndLineEndInBothShifts() {
        check.same("blank in LETTERS", bodyOf(0, BLANK, 0), "A A");
        check.same("blank in FIGURES", bodyOf(TO_FIGURES, 0, BLANK, 0), "0 0");
        check.same("LINE END in LETTERS", bodyOf(0, LINE_END, 0), "A\nA");
        check.same("LINE END in FIGURES", bodyOf(TO_FIGURES, 0, LINE_END, 0), "0\n0");
    }

    /** "28 shifts to LETTERS, 29 to FIGURES". */
    private static void shiftToWhereItIs() {
        check.same("there and back", bodyOf(TO_FIGURES, 1, TO_LETTERS, 1), "1B");
        check.same("LETTERS in LETTERS", bodyOf(TO_LETTERS, TO_LETTERS, 1), "B");
        check.same("FIGURES in FIGURES", bodyOf(TO_FIGURES, TO_FIGURES, 1), "1");
        check.same("a shift stays over blanks and lines", bodyOf(TO_FIGURES, BLANK, 1, LINE_END, 1), " 1\n1");
    }

    /** "30 and 31 are nothing". */
    private static void signsThatAreNothing() {
        check.same("30 and 31 in LETTERS", bodyOf(1, 30, 31, 1), "BB");
        check.same("30 and 31 in FIGURES", bodyOf(TO_FIGURES, 1, 30, 31, 1), "11");
    }

    private static void nothingsDoNotCount() {
        RelayDesk desk = desk();
        Teleprinter.type(desk, 0, HEADER + "X".repeat(48));
        typeSigns(desk, 30, 31, TO_FIGURES, 21, 25, 30, 31, TO_LETTERS, LINE_END);
        check.same("60 and some nothings", typeEnd(desk), RelayDesk.TAKEN);
        Teleprinter.type(desk, 0, "002 1 KILN\nX\n");
        check.same("nothings among the Ns", typeSigns(desk, 30, SIGN_OF_N, 31, SIGN_OF_N, TO_FIGURES, 21, 25, TO_LETTERS, SIGN_OF_N,
            SIGN_OF_N, TO_FIGURES, 30, LINE_END), RelayDesk.TAKEN);
    }

    /** "Each open channel gathers characters, from LETTERS on": at first, behind an END, opened again, behind a cut. */
    private static void fromLettersOn() {
        check.same("at first", typeEnd(new RelayDesk()), RelayDesk.CASE);
        String[] texts = {"001 1 KILN\n", "001\n", "900\n", "X\n"};
        int[] answers = {RelayDesk.TAKEN, RelayDesk.CASE, RelayDesk.IGNORED, RelayDesk.CASE};
        for (int i = 0; i < texts.length; i++) {
            RelayDesk desk = desk();
            Teleprinter.type(desk, 0, texts[i] + "NNNN");
            check.same("an END in FIGURES", typeSigns(desk, TO_FIGURES, LINE_END), answers[i]);
            check.same("behind it", typeEnd(desk), RelayDesk.CASE);
        }
        RelayDesk desk = desk();
        typeSigns(desk, TO_FIGURES, 1);
        desk.open(0, false);
        desk.open(0, true);
        check.same("opened again", typeEnd(desk), RelayDesk.CASE);
        typeSigns(desk, TO_FIGURES, 1);
        desk.cut();
        check.same("behind a cut", typeEnd(desk), RelayDesk.CASE);
        typeSigns(desk, TO_FIGURES);
        desk.open(0, false);
        desk.sign(0, TO_FIGURES);
        desk.open(0, true);
        check.same("a shift alone, and one while it was closed", typeEnd(desk), RelayDesk.CASE);
    }

    /** "until a line is just NNNN and its LINE END: the END." */
    private static void lineOfJustFourNs() {
        String[] others = {"\n", "N\n", "NN\n", "NNN\n", "NNNNN\n", "NNNNNN\n", "NNNNNNNN\n", " NNNN\n", "NNNN \n", "NNNNA\n",
            "ANNNN\n", "NNANN\n", "MNNN\n", "NNNM\n", "NNNO\n", "NN\nNN\n", "NNN\nN\n"};
        for (String other : others) {
            RelayDesk desk = desk();
            check.same("no END: " + other, Teleprinter.type(desk, 0, HEADER + other), 0);
            check.same("behind it", typeEnd(desk), RelayDesk.TAKEN);
            check.same("is text", Teleprinter.receive(desk, 1), HEADER + other + "NNNN\n");
        }
        RelayDesk desk = desk();
        check.same("without its LINE END", Teleprinter.type(desk, 0, HEADER + "NNNN"), 0);
        check.same("with it", desk.sign(0, LINE_END), RelayDesk.TAKEN);
        check.same("in the line of the header", Teleprinter.type(desk, 0, "002 1 KILN NNNN\n"), 0);
        check.same("the END", typeEnd(desk), RelayDesk.TAKEN);
        check.same("was an indicator there", desk.reason(1), 5);
    }

    private static void fourFiguresAreNoEnd() {
        RelayDesk desk = desk();
        Teleprinter.type(desk, 0, HEADER);
        check.same("in FIGURES", typeSigns(desk, TO_FIGURES, SIGN_OF_N, SIGN_OF_N, SIGN_OF_N, SIGN_OF_N, LINE_END), 0);
        check.same("one in FIGURES", typeSigns(desk, SIGN_OF_N, TO_LETTERS, SIGN_OF_N, SIGN_OF_N, SIGN_OF_N, LINE_END), 0);
        check.same("in LETTERS", typeEnd(desk), RelayDesk.TAKEN);
        check.same("they were text", Teleprinter.receive(desk, 1), HEADER + "////\n/NNN\nNNNN\n");
    }

    /** "What came before that line is the text": nothing, one LINE END, one character and a LINE END. */
    private static void emptyText() {
        for (String text : new String[] {"", "\n", "A\n", " \n"}) {
            RelayDesk desk = desk();
            check.same("a text of " + text.length(), Teleprinter.message(desk, 0, text), RelayDesk.CASE);
            check.same("has no number", desk.reason(1), 1);
        }
    }

    /** "of more than 60 characters it is LONG": 59, 60, 61 and 62, with a body and without. */
    private static void textOfSixty() {
        for (int length = 59; length <= 62; length++) {
            RelayDesk desk = desk();
            String text = HEADER + "X".repeat(length - HEADER.length() - 1) + "\n";
            boolean isLong = length > 60;
            check.same("a text of " + length, Teleprinter.message(desk, 0, text), isLong ? RelayDesk.CASE : RelayDesk.TAKEN);
            check.same("its number is taken", desk.receipt(0), 1);
            check.same("a message", desk.count(0), isLong ? 0 : 1);
            check.same("a case", desk.count(1), isLong ? 1 : 0);
            check.same("LONG", isLong ? desk.reason(1) : 2, 2);
            check.same("all of it is sent", Teleprinter.receive(desk, 1), isLong ? "" : text + "NNNN\n");
            RelayDesk other = desk();
            String header = " ".repeat(length - HEADER.length()) + HEADER;
            check.same("a header of " + length, Teleprinter.message(other, 0, header), isLong ? RelayDesk.CASE : RelayDesk.TAKEN);
        }
        RelayDesk lines = desk();
        check.same("60, the last ones LINE ENDS", Teleprinter.message(lines, 0, HEADER + "\n".repeat(49)), RelayDesk.TAKEN);
        check.same("61, the last ones LINE ENDS", Teleprinter.message(lines, 0, "002 1 KILN\n" + "\n".repeat(50)), RelayDesk.CASE);
        check.same("LONG", lines.reason(1), 2);
    }

    /** The line NNNN is not of the text, be it below, on or beyond its 60 characters. */
    private static void theEndsLineDoesNotCount() {
        for (int length = 54; length <= 60; length++) {
            RelayDesk desk = desk();
            String text = HEADER + "X".repeat(length - HEADER.length() - 1) + "\n";
            check.same("a text of " + length + " and its END", Teleprinter.message(desk, 0, text), RelayDesk.TAKEN);
            check.same("nothing of the END in it", Teleprinter.receive(desk, 1), text + "NNNN\n");
        }
    }

    private static void textsFarBeyondSixty() {
        for (int more : new int[] {64, 100, 200, 256, 400}) {
            RelayDesk desk = desk();
            check.same("still no END", Teleprinter.type(desk, 0, HEADER + "X".repeat(more)), 0);
            check.same("not behind an X", Teleprinter.type(desk, 0, "NNNN\n"), 0);
            check.same("in a line of its own", typeEnd(desk), RelayDesk.CASE);
            check.same("LONG", desk.reason(1), 2);
            check.same("the next is not", Teleprinter.message(desk, 0, "002 1 KILN\n"), RelayDesk.TAKEN);
        }
    }

    /** "and those beyond are not kept": the header is read of the first 60. */
    private static void thoseBeyondAreNotKept() {
        for (int blanks = 56; blanks <= 60; blanks++) {
            RelayDesk desk = desk();
            Teleprinter.message(desk, 0, " ".repeat(blanks) + "001 1 KILN\n");
            check.same("a number behind " + blanks + " blanks", desk.reason(1), blanks <= 57 ? 2 : 1);
            check.same("is taken", desk.receipt(0), blanks <= 57 ? 1 : 999);
        }
    }

    /** "Then the next one begins": behind what each END brings. */
    private static void thenTheNextBegins() {
        String[] texts = {HEADER, "001\n", "X\n", "999 1 KILN\n", HEADER + "X".repeat(60) + "\n"};
        int[] answers = {RelayDesk.TAKEN, RelayDesk.CASE, RelayDesk.CASE, RelayDesk.IGNORED, RelayDesk.CASE};
        for (int i = 0; i < texts.length; i++) {
            RelayDesk desk = desk();
            check.same("one", Teleprinter.message(desk, 0, texts[i]), answers[i]);
            int number = desk.receipt(0) % 999 + 1;
            String next = String.format("%03d 3 LOFT\nY\n", number);
            check.same("the next", Teleprinter.message(desk, 0, next), RelayDesk.TAKEN);
            check.same("and nothing of the one before", Teleprinter.receive(desk, 3), "001 3 LOFT\nY\nNNNN\n");
            check.same("one without a text", typeEnd(desk), RelayDesk.CASE);
            check.same("its reason", desk.reason(desk.count(1)), 1);
        }
        RelayDesk full = new RelayDesk();
        Desks.fillMessages(full, 10);
        check.same("FULL", Teleprinter.message(full, 0, "011 1 KILN\n"), RelayDesk.FULL);
        check.same("one without a text behind it", typeEnd(full), RelayDesk.CASE);
        check.same("FULL again", Teleprinter.message(full, 0, "011 1 KILN\n"), RelayDesk.FULL);
    }

    private static void everyChannelGathersForItself() {
        RelayDesk desk = desk();
        int[] signs = Teleprinter.signsOf("001 1 KILN\nNNNN\n");
        for (int i = 0; i < signs.length; i++) {
            for (int channel = 0; channel < 8; channel++) {
                check.same("all channels in turn", desk.sign(channel, signs[i]), i < signs.length - 1 ? 0 : RelayDesk.TAKEN);
            }
        }
        check.same("eight messages", desk.count(0), 8);
    }

    /** "NONE (and nothing happens) if the channel is closed." What happens is looked at by RefusedCallsTest. */
    private static void closedAnswersNone() {
        RelayDesk desk = desk();
        desk.open(0, false);
        for (int s = 0; s <= 31; s++) {
            check.same("sign " + s, desk.sign(0, s), RelayDesk.NONE);
            check.same("sign " + s + " on an open one", desk.sign(1, s), 0);
        }
        Teleprinter.type(desk, 2, HEADER + "NNNN");
        desk.open(2, false);
        check.same("the END's last sign", desk.sign(2, LINE_END), RelayDesk.NONE);
        desk.open(2, true);
        check.same("it is no END when open again", desk.sign(2, LINE_END), 0);
    }

    /** "An object is used for at most 512 calls after it has been made". */
    private static void upToTheLastCall() {
        RelayDesk desk = new RelayDesk();
        Desks.route(desk);
        int calls = 2;
        int[] signs = Teleprinter.signsOf("001 1 KILN\nNNNN\n");
        while (calls < 512 - signs.length) {
            check.same("a sign that is nothing", desk.sign(0, 30 + calls % 2), 0);
            calls++;
        }
        check.same("the 512th call", Teleprinter.type(desk, 0, "001 1 KILN\nNNNN\n"), RelayDesk.TAKEN);
    }
}
