import java.util.Arrays;

/** Boundaries of GOING OUT, and of power and channels that fail (promises 7 to 11 and 15): a method for each sentence. */
public final class SendBoundsTest {
    private static final String FIRST = "001 1 KILN\nNNNN\n";
    private static final String AGAIN = "001 R 1 KILN\nNNNN\n";
    private static final Check check = new Check("SendBoundsTest");

    public static void main(String[] args) {
        nothingToSend();
        closedSendsNothing();
        shiftOnlyBeforeOneThatNeedsIt();
        everyCharacterAsItsSign();
        lineEndBehindTheBody();
        longestTextGoesOutWhole();
        mostShiftsGoOutWhole();
        numbersFromOneOn();
        leastPrecedenceFirst();
        ofEqualOnesTheLeastNumber();
        askedForGoesFirst();
        turnComesWithTheFirstSign();
        sentWithItsLastSign();
        latestThreeMayBeAskedFor();
        askedAgainIsNoneOfTheLatest();
        whileItWaitsOrIsBeingSent();
        threeWaiting();
        rerunIsOfOneChannel();
        rerunOnAClosedChannel();
        queuedOfEachPrecedence();
        queuedUpToTen();
        traceOfEachState();
        whetherItWasOpen();
        closedLosesWhatItGathered();
        beginsAnewAtEverySign(true);
        beginsAnewAtEverySign(false);
        askedForBeginsAnewAtEverySign(true);
        askedForBeginsAnewAtEverySign(false);
        cutIsForAllChannels();
        cutLeavesTheRest();
        check.end();
    }

    private static RelayDesk desk(int messages) {
        RelayDesk desk = new RelayDesk();
        Desks.fillMessages(desk, messages);
        return desk;
    }

    private static RelayDesk deskThatSent(int messages) {
        RelayDesk desk = new RelayDesk();
        Desks.haveSent(desk, messages);
        return desk;
    }

    private static RelayDesk deskWithText(String text) {
        RelayDesk desk = new RelayDesk();
        Desks.route(desk);
        Desks.makeCases(desk, 1);
        Teleprinter.clerk(desk, 1, text);
        check.same("handed in", desk.resubmit(1), 0);
        return desk;
    }

    private static String signs(String... texts) {
        int[] all = {};
        for (String text : texts) {
            int[] more = Teleprinter.signsOf(text);
            int start = all.length;
            all = Arrays.copyOf(all, start + more.length);
            System.arraycopy(more, 0, all, start, more.length);
        }
        return Arrays.toString(all);
    }

    private static String sent(RelayDesk desk, int channel) {
        return Arrays.toString(Teleprinter.signsSent(desk, channel));
    }

    private static void come(RelayDesk desk, String precedences) {
        for (char precedence : precedences.toCharArray()) {
            Teleprinter.message(desk, 0, String.format("%03d %c KILN\n", desk.receipt(0) % 999 + 1, precedence));
        }
    }

    /** "NONE if there is nothing". */
    private static void nothingToSend() {
        RelayDesk desk = desk(1);
        for (int channel = 0; channel < 8; channel++) {
            check.same("a new object", new RelayDesk().send(channel), RelayDesk.NONE);
            check.same("one has something", desk.send(channel), channel == 1 ? 29 : RelayDesk.NONE);
        }
        RelayDesk all = deskThatSent(1);
        check.same("all was sent", all.send(1), RelayDesk.NONE);
        check.same("still", all.send(1), RelayDesk.NONE);
        come(all, "1");
        check.same("one more", sent(all, 1), signs("002 1 KILN\nNNNN\n"));
    }

    /** "or the channel is closed". */
    private static void closedSendsNothing() {
        RelayDesk desk = desk(1);
        desk.open(1, false);
        check.same("closed", desk.send(1), RelayDesk.NONE);
        check.same("it waits", desk.queued(1, 1), 1);
        desk.open(1, true);
        Teleprinter.skip(desk, 1, 5);
        desk.open(1, false);
        check.same("closed in the midst", desk.send(1), RelayDesk.NONE);
        check.same("closed still", desk.send(1), RelayDesk.NONE);
        desk.open(1, true);
        check.same("whole", sent(desk, 1), signs(FIRST));
    }

    /** "CHARACTERS become signs from LETTERS on, with a shift only before one that needs it." */
    private static void shiftOnlyBeforeOneThatNeedsIt() {
        RelayDesk desk = deskWithText("001 1 KILN\n1 2\n3 A B\nC");
        int[] due = {29, 0, 0, 1, 26, 1, 26, 28, 10, 8, 11, 13, 27, 29, 1, 26, 2, 27, 3, 26, 28, 0, 26, 1, 27, 2, 27,
            13, 13, 13, 13, 27};
        check.same("once", sent(desk, 1), Arrays.toString(due));
        desk.rerun(1, 1);
        int[] again = {29, 0, 0, 1, 26, 28, 17, 26, 29, 1, 26, 28, 10, 8, 11, 13, 27, 29, 1, 26, 2, 27, 3, 26, 28, 0, 26, 1, 27, 2, 27,
            13, 13, 13, 13, 27};
        check.same("again", sent(desk, 1), Arrays.toString(again));
    }

    private static void everyCharacterAsItsSign() {
        String letters = "ABCDEFGHIJKLMNOPQRSTUVWXYZ";
        String figures = "0123456789.,-/()?:'+=";
        StringBuilder due = new StringBuilder();
        for (int s = 0; s < 26; s++) {
            due.append(s).append(", ");
        }
        check.same("letters", sent(deskWithText("001 1 KILN\n" + letters), 1).contains(" 27, " + due + "27, "), true);
        due.setLength(0);
        for (int s = 0; s < 21; s++) {
            due.append(s).append(", ");
        }
        check.same("figures", sent(deskWithText("001 1 KILN\n" + figures), 1).contains(" 27, 29, " + due + "27, 28, "), true);
    }

    /** "LINE END if the BODY is not empty and does not end with one". */
    private static void lineEndBehindTheBody() {
        String[] texts = {"", "\n", "\nA", "\nA\n", "\n\n", "\n\n\n", "\nA\nB", "\n ", "\n1"};
        String[] bodies = {"", "", "A\n", "A\n", "\n", "\n\n", "A\nB\n", " \n", "1\n"};
        for (int i = 0; i < texts.length; i++) {
            RelayDesk desk = deskWithText("001 1 KILN" + texts[i]);
            check.same("the body " + bodies[i], sent(desk, 1), signs("001 1 KILN\n" + bodies[i] + "NNNN\n"));
            desk.rerun(1, 1);
            check.same("again", sent(desk, 1), signs("001 R 1 KILN\n" + bodies[i] + "NNNN\n"));
        }
    }

    private static void longestTextGoesOutWhole() {
        String[] headers = {"001 1 KILN", "001 1 KILN LOFT KILN LOFT"};
        for (String header : headers) {
            for (int length = 59; length <= 60; length++) {
                String body = "X".repeat(length - header.length() - 1);
                RelayDesk desk = deskWithText(header + "\n" + body);
                check.same("a text of " + length, sent(desk, 1), signs(header + "\n" + body + "\nNNNN\n"));
                desk.rerun(1, 1);
                check.same("again", sent(desk, 1), signs(header.replace("001", "001 R") + "\n" + body + "\nNNNN\n"));
            }
        }
        RelayDesk lines = deskWithText("001 1 KILN" + "\n".repeat(50));
        check.same("LINE ENDS alone", sent(lines, 1), signs("001 1 KILN" + "\n".repeat(50) + "NNNN\n"));
        RelayDesk header = deskWithText(" ".repeat(33) + "001 R 1 KILN LOFT KILN LOFT");
        check.same("a header alone", sent(header, 1), signs("001 1 KILN LOFT KILN LOFT\nNNNN\n"));
    }

    private static void mostShiftsGoOutWhole() {
        String body = "1A".repeat(24) + "1";
        RelayDesk desk = deskWithText("001 1 KILN\n" + body);
        check.same("a shift before each", sent(desk, 1), signs("001 1 KILN\n" + body + "\nNNNN\n"));
        desk.rerun(1, 1);
        check.same("again", sent(desk, 1), signs("001 R 1 KILN\n" + body + "\nNNNN\n"));
    }

    /** "it gets the channel's next number (1 at first, 1 behind 999)": 10 MESSAGES lead no further than to 10. */
    private static void numbersFromOneOn() {
        RelayDesk desk = desk(10);
        for (int number = 1; number <= 10; number++) {
            check.same("the next number", Teleprinter.receive(desk, 1), String.format("%03d 1 KILN\nNNNN\n", number));
            check.same("under which it was SENT", desk.trace(number, 1), number);
        }
        check.same("nothing more", desk.send(1), RelayDesk.NONE);
        RelayDesk two = desk(1);
        Teleprinter.message(two, 0, "002 1 LOFT\n");
        check.same("one channel's first", Teleprinter.receive(two, 1), FIRST);
        check.same("another channel's first", Teleprinter.receive(two, 3), "001 1 LOFT\nNNNN\n");
    }

    /** "ENTRIES, the least PRECEDENCE first". */
    private static void leastPrecedenceFirst() {
        RelayDesk desk = new RelayDesk();
        Desks.route(desk);
        come(desk, "4321");
        for (int i = 1; i <= 4; i++) {
            check.same("the least", Teleprinter.receive(desk, 1), "00" + i + " " + i + " KILN\nNNNN\n");
            check.same("which it was", desk.trace(5 - i, 1), i);
        }
    }

    /** "of equal ones the message with the least number". */
    private static void ofEqualOnesTheLeastNumber() {
        RelayDesk desk = new RelayDesk();
        Desks.route(desk);
        come(desk, "313133");
        int[] order = {2, 4, 1, 3, 5, 6};
        for (int i = 0; i < order.length; i++) {
            Teleprinter.receive(desk, 1);
            check.same("message " + order[i], desk.trace(order[i], 1), i + 1);
        }
    }

    /** "first what was asked for again, in the order of asking; then ENTRIES". */
    private static void askedForGoesFirst() {
        RelayDesk desk = deskThatSent(3);
        come(desk, "1");
        desk.rerun(1, 3);
        desk.rerun(1, 1);
        desk.rerun(1, 3);
        check.same("in the order of asking", sent(desk, 1), signs("003 R 1 KILN\nNNNN\n", AGAIN, "003 R 1 KILN\nNNNN\n",
            "004 1 KILN\nNNNN\n"));
        come(desk, "1");
        desk.send(1);
        desk.rerun(1, 4);
        come(desk, "1");
        String rest = sent(desk, 1);
        check.same("behind the one that is being sent", "[29, " + rest.substring(1),
            signs("005 1 KILN\nNNNN\n", "004 R 1 KILN\nNNNN\n", "006 1 KILN\nNNNN\n"));
    }

    /** "When an ENTRY's turn comes it gets the channel's next number": one that comes before the first sign may overtake. */
    private static void turnComesWithTheFirstSign() {
        RelayDesk desk = new RelayDesk();
        Desks.route(desk);
        come(desk, "41");
        check.same("no sign yet: the urgent one", Teleprinter.receive(desk, 1), FIRST);
        check.same("one sign", desk.send(1), 29);
        come(desk, "1");
        String rest = sent(desk, 1);
        check.same("not overtaken", "[29, " + rest.substring(1), signs("002 4 KILN\nNNNN\n", "003 1 KILN\nNNNN\n"));
        check.same("its number", desk.trace(1, 1), 2);
    }

    /** "When its last sign has gone out, it is SENT". */
    private static void sentWithItsLastSign() {
        RelayDesk desk = desk(1);
        int length = Teleprinter.signsOf(FIRST).length;
        for (int i = 0; i < length; i++) {
            check.same("before sign " + i, desk.trace(1, 1), RelayDesk.NONE);
            check.same("may not be asked for before sign " + i, desk.rerun(1, 1), false);
            check.same("waits before sign " + i, desk.queued(1, 1), i == 0 ? 1 : 0);
            desk.send(1);
        }
        check.same("behind the last", desk.trace(1, 1), 1);
        check.same("may be asked for", desk.rerun(1, 1), true);
        check.same("again", sent(desk, 1), signs(AGAIN));
    }

    /** "of each channel the latest 3 ENTRIES that were SENT may be asked for again". */
    private static void latestThreeMayBeAskedFor() {
        for (int sent = 0; sent <= 6; sent++) {
            for (int number = 1; number <= 7; number++) {
                RelayDesk desk = deskThatSent(sent);
                boolean may = number <= sent && number > sent - 3;
                check.same(number + " of " + sent, desk.rerun(1, number), may);
                check.same("what is sent", sent(desk, 1), may ? signs("00" + number + " R 1 KILN\nNNNN\n") : "[]");
            }
        }
        check.same("the highest number", deskThatSent(1).rerun(1, 999), false);
        RelayDesk desk = deskThatSent(3);
        check.same("the oldest of three", desk.rerun(1, 1), true);
        come(desk, "1");
        check.same("and a fourth", sent(desk, 1), signs(AGAIN, "004 1 KILN\nNNNN\n"));
        check.same("no more then", desk.rerun(1, 1), false);
        check.same("but the second", desk.rerun(1, 2), true);
    }

    private static void askedAgainIsNoneOfTheLatest() {
        RelayDesk desk = deskThatSent(4);
        desk.rerun(1, 2);
        check.same("sent again", Teleprinter.receive(desk, 1), "002 R 1 KILN\nNNNN\n");
        come(desk, "1");
        Teleprinter.receive(desk, 1);
        check.same("the second is out of the latest three", desk.rerun(1, 2), false);
        check.same("the third is not", desk.rerun(1, 3), true);
        check.same("what became of the second", desk.trace(2, 1), 2);
    }

    /** "whether it may be (also again, while it waits or is being sent)". */
    private static void whileItWaitsOrIsBeingSent() {
        RelayDesk desk = deskThatSent(1);
        check.same("once", desk.rerun(1, 1), true);
        check.same("while it waits", desk.rerun(1, 1), true);
        desk.send(1);
        check.same("while it is being sent", desk.rerun(1, 1), true);
        String rest = sent(desk, 1);
        check.same("three times", "[29, " + rest.substring(1), signs(AGAIN, AGAIN, AGAIN));
        RelayDesk first = desk(1);
        first.send(1);
        check.same("while it is being sent for the first time", first.rerun(1, 1), false);
        RelayDesk gone = deskThatSent(3);
        come(gone, "1");
        gone.send(1);
        check.same("asked for", gone.rerun(1, 1), true);
        Teleprinter.receive(gone, 1);
        check.same("a fourth was SENT: not again", gone.rerun(1, 1), false);
        check.same("but it is sent", sent(gone, 1), signs(AGAIN));
    }

    /** "IllegalState: 3 are waiting on that channel": none, one and two are fewer; that being sent does not wait. */
    private static void threeWaiting() {
        RelayDesk desk = deskThatSent(1);
        for (int i = 0; i < 3; i++) {
            check.same("with " + i + " waiting", desk.rerun(1, 1), true);
        }
        check.refusesState("with 3 waiting", () -> desk.rerun(1, 1));
        check.refusesState("with 3 waiting, one that may not be", () -> desk.rerun(1, 2));
        desk.send(1);
        check.same("with 2 waiting, one that may not be", desk.rerun(1, 2), false);
        check.same("with 2 waiting", desk.rerun(1, 1), true);
        check.refusesState("with 3 waiting again", () -> desk.rerun(1, 1));
        desk.cut();
        check.refusesState("with 3 waiting behind a cut", () -> desk.rerun(1, 1));
        desk.open(1, false);
        check.refusesState("with 3 waiting on a closed one", () -> desk.rerun(1, 1));
        desk.open(1, true);
        check.same("four are sent", sent(desk, 1), signs(AGAIN, AGAIN, AGAIN, AGAIN));
        check.same("none waits", desk.rerun(1, 1), true);
    }

    private static void rerunIsOfOneChannel() {
        RelayDesk desk = deskThatSent(1);
        for (int channel = 0; channel < 8; channel++) {
            check.same("on channel " + channel, desk.rerun(channel, 1), channel == 1);
        }
        for (int channel = 0; channel < 8; channel++) {
            check.same("sent on channel " + channel, sent(desk, channel), channel == 1 ? signs(AGAIN) : "[]");
        }
    }

    private static void rerunOnAClosedChannel() {
        RelayDesk desk = deskThatSent(1);
        desk.open(1, false);
        check.same("a number that may be", desk.rerun(1, 1), true);
        check.same("one that may not", desk.rerun(1, 2), false);
        check.same("nothing is sent", desk.send(1), RelayDesk.NONE);
        desk.open(1, true);
        check.same("it is sent", sent(desk, 1), signs(AGAIN));
    }

    /** "How many ENTRIES of a PRECEDENCE wait on a channel (without the one that is being sent)." */
    private static void queuedOfEachPrecedence() {
        RelayDesk desk = new RelayDesk();
        Desks.route(desk);
        come(desk, "1223334444");
        for (int precedence = 1; precedence <= 4; precedence++) {
            check.same("of " + precedence, desk.queued(1, precedence), precedence);
            check.same("on another channel", desk.queued(2, precedence), 0);
        }
        for (int left = 9; left >= 0; left--) {
            desk.send(1);
            int all = 0;
            for (int precedence = 1; precedence <= 4; precedence++) {
                all += desk.queued(1, precedence);
            }
            check.same("without the one that is being sent", all, left);
            Teleprinter.receive(desk, 1);
        }
        desk.rerun(1, 10);
        check.same("what is asked for is no ENTRY", desk.queued(1, 4), 0);
    }

    private static void queuedUpToTen() {
        RelayDesk desk = desk(10);
        check.same("ten", desk.queued(1, 1), 10);
        Teleprinter.message(desk, 0, "011 1 KILN\n");
        check.same("still ten", desk.queued(1, 1), 10);
        desk.open(1, false);
        check.same("on a closed channel", desk.queued(1, 1), 10);
        desk.cut();
        check.same("behind a cut", desk.queued(1, 1), 10);
    }

    /** "0 it was not routed there, NONE it waits or is being sent without being SENT, else the number". */
    private static void traceOfEachState() {
        RelayDesk desk = desk(2);
        Teleprinter.receive(desk, 1);
        desk.send(1);
        come(desk, "1");
        int[] due = {1, RelayDesk.NONE, RelayDesk.NONE};
        for (int message = 1; message <= 3; message++) {
            check.same("message " + message, desk.trace(message, 1), due[message - 1]);
            check.same("not routed to its alternate", desk.trace(message, 2), 0);
            check.same("nor back", desk.trace(message, 0), 0);
        }
        desk.cut();
        check.same("begun anew", desk.trace(2, 1), RelayDesk.NONE);
        desk.rerun(1, 1);
        Teleprinter.receive(desk, 1);
        desk.send(1);
        check.same("being sent again, but SENT", desk.trace(1, 1), 1);
        check.same("SENT", desk.trace(2, 1), 2);
    }

    /** "A channel is open, or closed: whether it was open." */
    private static void whetherItWasOpen() {
        for (int i = 0; i < 8; i++) {
            RelayDesk desk = new RelayDesk();
            check.same("at first", desk.open(i, true), true);
            check.same("closing", desk.open(i, false), true);
            check.same("closing again", desk.open(i, false), false);
            check.same("opening", desk.open(i, true), false);
            check.same("opening again", desk.open(i, true), true);
            for (int other = 0; other < 8; other++) {
                check.same("the others", desk.open(other, true), true);
            }
        }
    }

    /** "Closed, what it gathered is gone": at every sign of a message; of the closed channel alone. */
    private static void closedLosesWhatItGathered() {
        int[] signs = Teleprinter.signsOf("001 1 KILN\nNNNN\n");
        for (int come = 0; come < signs.length; come++) {
            RelayDesk desk = new RelayDesk();
            Desks.route(desk);
            for (int i = 0; i < come; i++) {
                desk.sign(0, signs[i]);
                desk.sign(4, signs[i]);
            }
            desk.open(0, false);
            desk.open(0, true);
            for (int i = come; i < signs.length; i++) {
                check.same("another channel goes on", desk.sign(4, signs[i]), i < signs.length - 1 ? 0 : RelayDesk.TAKEN);
            }
            check.same("the closed one begins", Teleprinter.message(desk, 0, "001 1 KILN\n"), RelayDesk.TAKEN);
            check.same("no case", desk.count(1), 0);
        }
    }

    /** "what it is sending begins anew when it is open again"; "what is being sent begins anew, under its number". */
    private static void beginsAnewAtEverySign(boolean byCut) {
        int length = Teleprinter.signsOf(FIRST).length;
        for (int gone = 0; gone <= length; gone++) {
            RelayDesk desk = desk(2);
            Teleprinter.skip(desk, 1, gone);
            fail(desk, byCut);
            fail(desk, byCut);
            String due = gone < length ? signs(FIRST, "002 1 KILN\nNNNN\n") : signs("002 1 KILN\nNNNN\n");
            check.same("begun anew behind " + gone, sent(desk, 1), due);
            check.same("the first", desk.trace(1, 1), 1);
            check.same("the second", desk.trace(2, 1), 2);
        }
    }

    private static void askedForBeginsAnewAtEverySign(boolean byCut) {
        int length = Teleprinter.signsOf(AGAIN).length;
        for (int gone = 0; gone <= length; gone++) {
            RelayDesk desk = deskThatSent(2);
            desk.rerun(1, 1);
            desk.rerun(1, 2);
            Teleprinter.skip(desk, 1, gone);
            fail(desk, byCut);
            String due = gone < length ? signs(AGAIN, "002 R 1 KILN\nNNNN\n") : signs("002 R 1 KILN\nNNNN\n");
            check.same("begun anew behind " + gone, sent(desk, 1), due);
        }
    }

    private static void fail(RelayDesk desk, boolean byCut) {
        if (byCut) {
            desk.cut();
        } else {
            desk.open(1, false);
            desk.open(1, true);
        }
    }

    /** "Power fails and comes back: what channels gathered is gone, and what is being sent begins anew". */
    private static void cutIsForAllChannels() {
        RelayDesk desk = new RelayDesk();
        for (int i = 0; i < 8; i++) {
            desk.route(i, i, i);
            desk.group(i < 4 ? 100 : 200, i);
        }
        Teleprinter.message(desk, 0, "001 1 AADW AAHS\n");
        for (int channel = 0; channel < 8; channel++) {
            Teleprinter.skip(desk, channel, 1 + 2 * channel);
            Teleprinter.type(desk, channel, "00");
        }
        desk.open(5, false);
        desk.cut();
        check.same("a closed one stays closed", desk.send(5), RelayDesk.NONE);
        desk.open(5, true);
        for (int channel = 0; channel < 8; channel++) {
            check.same("sent anew on " + channel, sent(desk, channel), signs("001 1 AADW AAHS\nNNNN\n"));
            check.same("gone on " + channel, Teleprinter.message(desk, channel, ""), RelayDesk.CASE);
        }
        check.same("all had no number", desk.reason(6), 1);
    }

    private static void cutLeavesTheRest() {
        RelayDesk desk = new RelayDesk();
        Desks.makeBusy(desk);
        RelayDesk twin = new RelayDesk();
        Desks.makeBusy(twin);
        desk.cut();
        check.same("all that can be read", Probes.answers(0, desk), Probes.answers(0, twin));
    }
}
