/** Promises 1 and 2: a new object, and signs coming in. */
public final class SignTest {
    private static final int TO_LETTERS = 28;
    private static final int TO_FIGURES = 29;
    private static final Check check = new Check("SignTest");

    public static void main(String[] args) {
        newObject();
        everyCharacter();
        signsThatAreNothing();
        everyTextBeginsInLetters();
        onlyALineOfFourNsIsTheEnd();
        longTexts();
        longTextIsCutBeforeItIsRead();
        headerFaults();
        soundHeaders();
        orderOfJudging();
        tenMessages();
        closedChannel();
        wrongArguments();
        check.end();
    }

    private static RelayDesk desk() {
        RelayDesk desk = new RelayDesk();
        desk.route(Teleprinter.indicator("AAAA"), 7, 7);
        return desk;
    }

    private static void newObject() {
        RelayDesk desk = new RelayDesk();
        for (int channel = 0; channel < 8; channel++) {
            check.same("LAST at first", desk.receipt(channel), 999);
            check.same("MISSING at first", desk.askFor(channel), 0);
            check.same("nothing to send", desk.send(channel), RelayDesk.NONE);
            check.same("nothing may be asked for", desk.rerun(channel, 1), false);
            for (int precedence = 1; precedence <= 4; precedence++) {
                check.same("nothing waits", desk.queued(channel, precedence), 0);
            }
            check.same("open at first", desk.open(channel, true), true);
        }
        for (int what = 0; what < 3; what++) {
            check.same("count at first", desk.count(what), 0);
        }
        check.same("no routes", Teleprinter.message(desk, 0, "001 1 AAAA\n"), RelayDesk.TAKEN);
        check.same("the reason for that", desk.reason(1), 5);
    }

    private static void everyCharacter() {
        String letters = "ABCDEFGHIJKLM NOPQRSTUVWXYZ\n";
        String figures = "0123456789.,- /()?:'+=\n";
        RelayDesk desk = desk();
        Teleprinter.message(desk, 0, "001 1 AAAA\n" + letters);
        Teleprinter.message(desk, 0, "002 1 AAAA\n" + figures);
        check.same("letters", Teleprinter.receive(desk, 7), "001 1 AAAA\n" + letters + "NNNN\n");
        check.same("figures", Teleprinter.receive(desk, 7), "002 1 AAAA\n" + figures + "NNNN\n");
    }

    private static void signsThatAreNothing() {
        RelayDesk desk = desk();
        Teleprinter.type(desk, 0, "001 1 AAAA\nA");
        desk.sign(0, 30);
        desk.sign(0, 31);
        desk.sign(0, TO_FIGURES);
        for (int s = 21; s <= 25; s++) {
            check.same("a sign that is nothing", desk.sign(0, s), 0);
        }
        desk.sign(0, 30);
        desk.sign(0, 31);
        desk.sign(0, 1);
        desk.sign(0, 20);
        desk.sign(0, 27);
        desk.sign(0, TO_LETTERS);
        for (int i = 0; i < 4; i++) {
            desk.sign(0, 13);
            desk.sign(0, 31);
            desk.sign(0, TO_FIGURES);
            desk.sign(0, 21);
            desk.sign(0, TO_LETTERS);
        }
        check.same("the END with nothings in it", desk.sign(0, 27), RelayDesk.TAKEN);
        check.same("nothings are not kept", Teleprinter.receive(desk, 7), "001 1 AAAA\nA1=\nNNNN\n");
    }

    private static void everyTextBeginsInLetters() {
        RelayDesk desk = desk();
        Teleprinter.type(desk, 0, "001 1 AAAA\nNNNN");
        desk.sign(0, TO_FIGURES);
        check.same("the END's LINE END in FIGURES", desk.sign(0, 27), RelayDesk.TAKEN);
        for (int i = 0; i < 4; i++) {
            desk.sign(0, 13);
        }
        check.same("NNNN without a shift", desk.sign(0, 27), RelayDesk.CASE);
    }

    private static void onlyALineOfFourNsIsTheEnd() {
        String[] lines = {"NNN\n", "NNNNN\n", " NNNN\n", "NNNN \n", "XNNNN\n", "NNNNX\n", "NN NN\n", ".NNNN\n"};
        for (String line : lines) {
            RelayDesk desk = desk();
            check.same(line + " is no END", Teleprinter.type(desk, 0, "001 1 AAAA\n" + line), 0);
            check.same("the END behind " + line, Teleprinter.type(desk, 0, "NNNN\n"), RelayDesk.TAKEN);
            check.same("the body " + line, Teleprinter.receive(desk, 7), "001 1 AAAA\n" + line + "NNNN\n");
        }
        RelayDesk desk = desk();
        check.same("the END at once", Teleprinter.type(desk, 0, "NNNN\n"), RelayDesk.CASE);
        check.same("its reason", desk.reason(1), 1);
        check.same("an END in the header's line", Teleprinter.type(desk, 0, "001 1 AAAANNNN\n"), 0);
        check.same("the END behind it", Teleprinter.type(desk, 0, "NNNN\n"), RelayDesk.CASE);
        check.same("its reason", desk.reason(2), 4);
    }

    private static void longTexts() {
        String body60 = Teleprinter.times(48, "X") + "\n";
        RelayDesk desk = desk();
        check.same("60 characters", Teleprinter.message(desk, 0, "001 1 AAAA\n" + body60), RelayDesk.TAKEN);
        check.same("all 60 are sent", Teleprinter.receive(desk, 7), "001 1 AAAA\n" + body60 + "NNNN\n");
        check.same("61 characters", Teleprinter.message(desk, 0, "002 1 AAAA\nX" + body60), RelayDesk.CASE);
        check.same("LONG", desk.reason(1), 2);
        check.same("its number was taken", desk.receipt(0), 2);
        desk = desk();
        String many = Teleprinter.times(150, "X") + "\n";
        check.same("161 characters", Teleprinter.message(desk, 0, "001 9\n" + many), RelayDesk.CASE);
        check.same("LONG before PRECEDENCE", desk.reason(1), 2);
        check.same("161 without a number", Teleprinter.message(desk, 0, "1 1 AAAA\n" + many), RelayDesk.CASE);
        check.same("NUMBER before LONG", desk.reason(2), 1);
        check.same("LONG, but IGNORED", Teleprinter.message(desk, 0, "001 1 AAAA\n" + body60 + "XX\n"), RelayDesk.IGNORED);
        desk = desk();
        String ends = Teleprinter.times(56, "X") + "\n";
        check.same("the line NNNN does not count", Teleprinter.message(desk, 0, "001\n" + ends.substring(1)), RelayDesk.CASE);
        check.same("60 with the header", desk.reason(1), 3);
        check.same("61 with the header", Teleprinter.message(desk, 0, "002\n" + ends), RelayDesk.CASE);
        check.same("61 is LONG", desk.reason(2), 2);
    }

    private static void longTextIsCutBeforeItIsRead() {
        RelayDesk desk = desk();
        Teleprinter.message(desk, 0, Teleprinter.times(58, " ") + "001\n");
        check.same("the 61st character belongs to the number", desk.reason(1), 1);
        Teleprinter.message(desk, 0, Teleprinter.times(57, " ") + "0012\n");
        check.same("three digits are left", desk.reason(2), 2);
        check.same("and taken", desk.receipt(0), 1);
    }

    private static void headerFaults() {
        String[] faulty = {
            "1", "", "1", "\n", "1", "   \n", "1", "\n001 1 AAAA\n", "1", "1 1 AAAA\n", "1", "0001 1 AAAA\n",
            "1", "000 1 AAAA\n", "1", "AAA 1 AAAA\n", "1", "00A 1 AAAA\n", "1", "R 001 1 AAAA\n", "1", "0.1 1 AAAA\n",
            "3", "001\n", "3", "001 R\n", "3", "001 AAAA\n", "3", "001 0 AAAA\n", "3", "001 5 AAAA\n", "3", "001 11 AAAA\n",
            "3", "001 R R 1 AAAA\n", "3", "001 RR 1 AAAA\n", "3", "001 X 1 AAAA\n", "3", "001 R AAAA\n", "3", "001\n1 AAAA\n",
            "4", "001 1\n", "4", "001 R 1\n", "4", "001 1 AAA\n", "4", "001 1 AAAAA\n", "4", "001 1 AAA1\n",
            "4", "001 1 R AAAA\n", "4", "001 1 AAAA 1\n", "4", "001 1 AAAA AAA\n", "4", "001 1\nAAAA\n",
            "4", "001 1 AAAA AAAA AAAA AAAA AAAA\n", "4", "001 1 AA-A\n",
        };
        for (int i = 0; i < faulty.length; i += 2) {
            RelayDesk desk = desk();
            check.same(faulty[i + 1] + " is a CASE", Teleprinter.message(desk, 0, faulty[i + 1]), RelayDesk.CASE);
            check.same("the fault of " + faulty[i + 1], desk.reason(1), Integer.parseInt(faulty[i]));
            check.same("no message", desk.count(0), 0);
            check.same("LAST behind it", desk.receipt(0), faulty[i].equals("1") ? 999 : 1);
        }
    }

    private static void soundHeaders() {
        String[] sound = {
            "001 1 AAAA\n", "001 1 AAAA\n",
            "  001   R  2   AAAA  \n", "001 2 AAAA\n",
            "007 R 4 AAAA AAAA AAAA AAAA\n", "001 4 AAAA AAAA AAAA AAAA\n",
            "020 3 AAAA \n001 9\n", "001 3 AAAA\n001 9\n",
            "001 1 AAAA\n\n", "001 1 AAAA\n\n",
        };
        for (int i = 0; i < sound.length; i += 2) {
            RelayDesk desk = desk();
            check.same(sound[i], Teleprinter.message(desk, 0, sound[i]), RelayDesk.TAKEN);
            check.same("what is sent of " + sound[i], Teleprinter.receive(desk, 7), sound[i + 1] + "NNNN\n");
        }
    }

    private static void orderOfJudging() {
        RelayDesk desk = desk();
        Teleprinter.message(desk, 0, "001 1 AAAA\n");
        check.same("IGNORED before a fault", Teleprinter.message(desk, 0, "001 9 AAAA\n"), RelayDesk.IGNORED);
        check.same("no CASE", desk.count(1), 0);
        check.same("another channel has its own numbers", Teleprinter.message(desk, 1, "001 1 AAAA\n"), RelayDesk.TAKEN);
        check.same("a sound one without a route", Teleprinter.message(desk, 1, "002 1 ZZZZ\n"), RelayDesk.TAKEN);
        check.same("is a CASE, too", desk.reason(1), 5);
        check.same("is a MESSAGE", desk.count(0), 3);
    }

    private static void tenMessages() {
        RelayDesk desk = desk();
        for (int i = 1; i <= 9; i++) {
            Teleprinter.message(desk, 0, "00" + i + " 1 AAAA\n");
        }
        check.same("the tenth", Teleprinter.message(desk, 0, "011 1 AAAA\n"), RelayDesk.TAKEN);
        check.same("the eleventh", Teleprinter.message(desk, 0, "012 1 AAAA\n"), RelayDesk.FULL);
        check.same("its number is not taken", desk.receipt(0), 11);
        check.same("a missing one", Teleprinter.message(desk, 0, "010 1 AAAA\n"), RelayDesk.FULL);
        check.same("it is still missing", desk.askFor(0), 10);
        check.same("FULL before another fault", Teleprinter.message(desk, 0, "012\n"), RelayDesk.FULL);
        check.same("IGNORED before FULL", Teleprinter.message(desk, 0, "011 1 AAAA\n"), RelayDesk.IGNORED);
        check.same("no CASE up to here", desk.count(1), 0);
        check.same("NUMBER before FULL", Teleprinter.message(desk, 0, "12\n"), RelayDesk.CASE);
        check.same("ten messages", desk.count(0), 10);
    }

    private static void closedChannel() {
        RelayDesk desk = desk();
        desk.open(0, false);
        for (int s : Teleprinter.signsOf("001 1 AAAA\nNNNN\n")) {
            check.same("a sign on a closed channel", desk.sign(0, s), RelayDesk.NONE);
        }
        desk.open(0, true);
        check.same("nothing happened", desk.receipt(0), 999);
        check.same("it gathers from nothing on", Teleprinter.message(desk, 0, "001 1 AAAA\n"), RelayDesk.TAKEN);
    }

    private static void wrongArguments() {
        RelayDesk desk = desk();
        desk.open(2, false);
        for (int wrong : new int[] {-1, 8, Integer.MIN_VALUE, Integer.MAX_VALUE}) {
            check.refusesArgument("channel " + wrong, () -> desk.sign(wrong, 0));
        }
        for (int wrong : new int[] {-1, 32, Integer.MIN_VALUE, Integer.MAX_VALUE}) {
            check.refusesArgument("sign " + wrong, () -> desk.sign(0, wrong));
            check.refusesArgument("sign " + wrong + " on a closed channel", () -> desk.sign(2, wrong));
        }
        check.takes("the last channel and sign", () -> desk.sign(7, 31));
    }
}
