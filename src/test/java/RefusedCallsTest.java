/**
 * "A call that throws changes nothing; where it lists more than one exception, the first one wins. IllegalArgument:
 * also where a number is none of those told here." Each refusal of each promise, and the calls that must change
 * nothing though they throw nothing.
 */
public final class RefusedCallsTest {
    private static final int[] NO_CHANNELS = {Integer.MIN_VALUE, -1, 8, Integer.MAX_VALUE};
    private static final int[] NO_INDICATORS = {Integer.MIN_VALUE, -1, 456976, Integer.MAX_VALUE};
    private static final Check check = new Check("RefusedCallsTest");
    private static final Twins busy = new Twins(check, "a busy desk", Desks::makeBusy);
    private static final Twins fresh = new Twins(check, "a new desk", desk -> { });
    private static final Twins fullOfRoutes = new Twins(check, "12 routes and groups", Desks::fillRoutes);
    private static final Twins fullOfMessages = new Twins(check, "10 messages", desk -> {
        Desks.makeCases(desk, 2);
        Desks.fillMessages(desk, 10);
    });
    private static final Twins threeWaiting = new Twins(check, "3 are waiting", Desks::askThrice);
    private static final Twins fullText = new Twins(check, "a text of 60", desk -> {
        Desks.route(desk);
        Desks.makeCases(desk, 2);
        Teleprinter.clerk(desk, 2, "001 1 KILN\n" + "X".repeat(49));
    });

    public static void main(String[] args) {
        noSuchChannel();
        noSuchSign();
        noSuchIndicator();
        routeOfAGroup();
        routeBeyondTwelve();
        groupWithARoute();
        memberThatIsTheGroup();
        memberThatIsInItAlready();
        memberThatLeadsToIt();
        groupThatHasFour();
        groupBeyondTwelve();
        argumentsWinOverTwelve();
        numberToRerun();
        rerunWhileThreeWait();
        noSuchPrecedence();
        noSuchMessage();
        noSuchCase();
        noneOfTheCharacters();
        textOfSixty();
        closedCase();
        resubmitWithTenMessages();
        lookingChangesNothing();
        openingAndClosingAgainChangesNothing();
        closedChannelTakesNothing();
        ignoredAndFullChangeNothing();
        nothingToSendOrToAskFor();
        check.end();
    }

    private static void noSuchChannel() {
        for (int wrong : NO_CHANNELS) {
            String channel = " of channel " + wrong;
            busy.refuseArgument("sign" + channel, desk -> desk.sign(wrong, 0));
            busy.refuseArgument("receipt" + channel, desk -> desk.receipt(wrong));
            busy.refuseArgument("askFor" + channel, desk -> desk.askFor(wrong));
            busy.refuseArgument("route" + channel, desk -> desk.route(Desks.KILN, wrong, 0));
            busy.refuseArgument("route of alternate " + wrong, desk -> desk.route(Desks.KILN, 0, wrong));
            busy.refuseArgument("a new route" + channel, desk -> desk.route(Desks.YARD, wrong, 0));
            busy.refuseArgument("a new route of alternate " + wrong, desk -> desk.route(Desks.YARD, 0, wrong));
            busy.refuseArgument("closing" + channel, desk -> desk.open(wrong, false));
            busy.refuseArgument("opening" + channel, desk -> desk.open(wrong, true));
            busy.refuseArgument("send" + channel, desk -> desk.send(wrong));
            busy.refuseArgument("rerun" + channel, desk -> desk.rerun(wrong, 1));
            busy.refuseArgument("queued" + channel, desk -> desk.queued(wrong, 1));
            busy.refuseArgument("trace" + channel, desk -> desk.trace(1, wrong));
        }
        for (int last : new int[] {0, 7}) {
            String channel = " of channel " + last;
            busy.take("sign" + channel, desk -> desk.sign(last, 0));
            busy.take("receipt" + channel, desk -> desk.receipt(last));
            busy.take("askFor" + channel, desk -> desk.askFor(last));
            busy.take("route" + channel, desk -> desk.route(Desks.YARD, last, 7 - last));
            busy.take("open" + channel, desk -> desk.open(last, false));
            busy.take("send" + channel, desk -> desk.send(last));
            busy.take("rerun" + channel, desk -> desk.rerun(last, 1));
            busy.take("queued" + channel, desk -> desk.queued(last, 1));
            busy.take("trace" + channel, desk -> desk.trace(1, last));
        }
    }

    private static void noSuchSign() {
        for (int wrong : new int[] {Integer.MIN_VALUE, -1, 32, Integer.MAX_VALUE}) {
            busy.refuseArgument("sign " + wrong, desk -> desk.sign(0, wrong));
            busy.refuseArgument("sign " + wrong + " in a text", desk -> desk.sign(5, wrong));
            busy.refuseArgument("sign " + wrong + " on a closed channel", desk -> desk.sign(6, wrong));
        }
        for (int last : new int[] {0, 31}) {
            busy.take("sign " + last, desk -> desk.sign(0, last));
        }
    }

    private static void noSuchIndicator() {
        for (int wrong : NO_INDICATORS) {
            busy.refuseArgument("route of " + wrong, desk -> desk.route(wrong, 0, 0));
            busy.refuseArgument("group of " + wrong, desk -> desk.group(wrong, Desks.KILN));
            busy.refuseArgument("member " + wrong, desk -> desk.group(Desks.TEAM, wrong));
            busy.refuseArgument("member " + wrong + " of a new group", desk -> desk.group(Desks.YARD, wrong));
        }
        for (int last : new int[] {0, 456975}) {
            busy.take("route of " + last, desk -> desk.route(last, 0, 0));
            busy.take("group of " + last, desk -> desk.group(last, Desks.KILN));
            busy.take("member " + last, desk -> desk.group(Desks.TEAM, last));
        }
    }

    /** "IllegalArgument: also if it is a GROUP." */
    private static void routeOfAGroup() {
        busy.refuseArgument("route of a group", desk -> desk.route(Desks.TEAM, 5, 5));
        busy.refuseArgument("route of a group of groups", desk -> desk.route(Desks.CREW, 5, 5));
        busy.take("route of a member that has none", desk -> {
            desk.group(Desks.TEAM, Desks.YARD);
            desk.route(Desks.YARD, 5, 5);
        });
    }

    /** "IllegalState: there are 12 already, and it is none of them." */
    private static void routeBeyondTwelve() {
        fullOfRoutes.refuseState("a 13th", desk -> desk.route(Desks.YARD, 0, 0));
        fullOfRoutes.take("one of them", desk -> desk.route(Desks.LOFT, 0, 0));
        fullOfRoutes.refuseArgument("a 13th to no channel", desk -> desk.route(Desks.YARD, 8, 0));
        fullOfRoutes.refuseArgument("a group of the 12", desk -> desk.route(Desks.CREW, 0, 0));
    }

    /** "IllegalArgument: also if it has a route". */
    private static void groupWithARoute() {
        busy.refuseArgument("it has a route", desk -> desk.group(Desks.KILN, Desks.YARD));
        fullOfRoutes.refuseArgument("it has a route, there are 12", desk -> desk.group(Desks.KILN, Desks.YARD));
    }

    /** "the member is the GROUP itself". */
    private static void memberThatIsTheGroup() {
        busy.refuseArgument("itself", desk -> desk.group(Desks.TEAM, Desks.TEAM));
        busy.refuseArgument("itself, a new one", desk -> desk.group(Desks.YARD, Desks.YARD));
        fullOfRoutes.refuseArgument("itself, with 4 members", desk -> desk.group(Desks.TEAM, Desks.TEAM));
        fullOfRoutes.refuseArgument("itself, a 13th", desk -> desk.group(Desks.YARD, Desks.YARD));
    }

    /** "or is in it already". */
    private static void memberThatIsInItAlready() {
        busy.refuseArgument("its first member", desk -> desk.group(Desks.TEAM, Desks.KILN));
        busy.refuseArgument("its last member", desk -> desk.group(Desks.TEAM, Desks.LOFT));
        fullOfRoutes.refuseArgument("the last of 4", desk -> desk.group(Desks.TEAM, 3));
        busy.take("a member of its member", desk -> desk.group(Desks.CREW, Desks.KILN));
    }

    /** "or leads to it through GROUPS". */
    private static void memberThatLeadsToIt() {
        busy.refuseArgument("through one", desk -> desk.group(Desks.TEAM, Desks.CREW));
        fullOfRoutes.refuseArgument("through one, with 4 members", desk -> desk.group(Desks.TEAM, Desks.CREW));
        Twins chain = new Twins(check, "a chain of 12 groups", desk -> {
            for (int i = 0; i < 12; i++) {
                desk.group(i, i + 1);
            }
        });
        chain.refuseArgument("through eleven", desk -> desk.group(11, 0));
        chain.refuseArgument("through twelve, a 13th", desk -> desk.group(12, 0));
        chain.refuseState("a 13th that nothing leads to", desk -> desk.group(13, 0));
        chain.take("a way down that is there already", desk -> desk.group(0, 12));
    }

    /** "IllegalState: it has 4". */
    private static void groupThatHasFour() {
        fullOfRoutes.refuseState("a fifth member", desk -> desk.group(Desks.TEAM, Desks.KILN));
        fullOfRoutes.refuseArgument("no such member", desk -> desk.group(Desks.TEAM, -1));
        fullOfRoutes.take("a second member", desk -> desk.group(Desks.CREW, Desks.KILN));
        Twins roomy = new Twins(check, "4 members, room for routes", desk -> {
            for (int i = 1; i <= 4; i++) {
                desk.group(0, i);
            }
        });
        roomy.refuseState("a fifth member", desk -> desk.group(0, 5));
    }

    /** "or there are 12 routes and GROUPS and it is none of them". */
    private static void groupBeyondTwelve() {
        fullOfRoutes.refuseState("a 13th", desk -> desk.group(Desks.YARD, Desks.KILN));
        fullOfRoutes.refuseState("a 13th, a member of none", desk -> desk.group(Desks.YARD, 400000));
    }

    private static void argumentsWinOverTwelve() {
        fullOfRoutes.refuseArgument("a 13th that is none", desk -> desk.group(456976, 0));
        fullOfRoutes.refuseArgument("a 13th with a member that is none", desk -> desk.group(Desks.YARD, 456976));
        fullOfRoutes.refuseArgument("a 13th route that is none", desk -> desk.route(456976, 0, 0));
    }

    /** "IllegalArgument: also if the number is not 1 .. 999." */
    private static void numberToRerun() {
        for (int wrong : new int[] {Integer.MIN_VALUE, -1, 0, 1000, Integer.MAX_VALUE}) {
            busy.refuseArgument("rerun of " + wrong, desk -> desk.rerun(1, wrong));
            fresh.refuseArgument("rerun of " + wrong, desk -> desk.rerun(1, wrong));
            threeWaiting.refuseArgument("rerun of " + wrong, desk -> desk.rerun(1, wrong));
        }
        for (int last : new int[] {1, 999}) {
            fresh.take("rerun of " + last, desk -> desk.rerun(1, last));
        }
    }

    /** "IllegalState: 3 are waiting on that channel (asked before whether it may be)." */
    private static void rerunWhileThreeWait() {
        threeWaiting.refuseState("a fourth", desk -> desk.rerun(1, 1));
        threeWaiting.refuseState("a number that may not be", desk -> desk.rerun(1, 4));
        threeWaiting.refuseArgument("no such channel", desk -> desk.rerun(8, 1));
        threeWaiting.take("another channel", desk -> desk.rerun(3, 1));
    }

    private static void noSuchPrecedence() {
        for (int wrong : new int[] {Integer.MIN_VALUE, -1, 0, 5, Integer.MAX_VALUE}) {
            busy.refuseArgument("queued of precedence " + wrong, desk -> desk.queued(1, wrong));
        }
        for (int last : new int[] {1, 4}) {
            busy.take("queued of precedence " + last, desk -> desk.queued(1, last));
        }
    }

    /** "IllegalArgument: also if there is no such MESSAGE." */
    private static void noSuchMessage() {
        fresh.refuseArgument("the first of none", desk -> desk.trace(1, 0));
        for (int wrong : new int[] {Integer.MIN_VALUE, -1, 0, 5, Integer.MAX_VALUE}) {
            busy.refuseArgument("message " + wrong, desk -> desk.trace(wrong, 1));
        }
        for (int last : new int[] {1, 4}) {
            busy.take("message " + last, desk -> desk.trace(last, 1));
        }
        fullOfMessages.take("message 10", desk -> desk.trace(10, 1));
        fullOfMessages.refuseArgument("message 11", desk -> desk.trace(11, 1));
    }

    /** "IllegalArgument: there is no such CASE." */
    private static void noSuchCase() {
        fresh.refuseArgument("reason of the first of none", desk -> desk.reason(1));
        fresh.refuseArgument("clerk on the first of none", desk -> desk.clerk(1, 'A'));
        fresh.refuseArgument("resubmit the first of none", desk -> desk.resubmit(1));
        for (int wrong : new int[] {Integer.MIN_VALUE, -1, 0, 4, Integer.MAX_VALUE}) {
            busy.refuseArgument("reason of " + wrong, desk -> desk.reason(wrong));
            busy.refuseArgument("clerk on " + wrong, desk -> desk.clerk(wrong, 'A'));
            busy.refuseArgument("resubmit " + wrong, desk -> desk.resubmit(wrong));
        }
        for (int last : new int[] {1, 3}) {
            busy.take("reason of " + last, desk -> desk.reason(last));
        }
        for (int open : new int[] {2, 3}) {
            busy.take("clerk on " + open, desk -> desk.clerk(open, 'A'));
            busy.take("resubmit " + open, desk -> desk.resubmit(open));
        }
        fullOfMessages.refuseArgument("resubmit no case", desk -> desk.resubmit(3));
        Twins six = new Twins(check, "8 cases, 2 of them lost", desk -> Desks.makeCases(desk, 8));
        six.take("reason of 6", desk -> desk.reason(6));
        six.take("clerk on 6", desk -> desk.clerk(6, 'A'));
        six.take("resubmit 6", desk -> desk.resubmit(6));
        six.refuseArgument("reason of 7", desk -> desk.reason(7));
        six.refuseArgument("clerk on 7", desk -> desk.clerk(7, 'A'));
        six.refuseArgument("resubmit 7", desk -> desk.resubmit(7));
    }

    /** "IllegalArgument: also if it is none of the CHARACTERS." Neighbours of those that are, first of all. */
    private static void noneOfTheCharacters() {
        char[] none = {0, 9, 11, 13, 31, '!', '"', '#', '&', '*', ';', '<', '>', '@', '[', '`', 'a', 'z', '~', 127, 160, 255,
            'A' + 256, ' ' + 256, 10 + 256, '\uffff'};
        for (char c : none) {
            busy.refuseArgument("character " + (int) c, desk -> desk.clerk(2, c));
        }
        busy.refuseArgument("a small letter for a closed case", desk -> desk.clerk(1, 'a'));
        fullText.refuseArgument("a small letter for a text of 60", desk -> desk.clerk(2, 'a'));
        for (char c : "AZ09.,-/()?:'+= \n".toCharArray()) {
            busy.take("character " + (int) c, desk -> desk.clerk(2, c));
        }
    }

    /** "IllegalState: ... or the text has 60." */
    private static void textOfSixty() {
        for (char c : "X0 \n".toCharArray()) {
            fullText.refuseState("a 61st, " + (int) c, desk -> desk.clerk(2, c));
        }
        fullText.take("another case", desk -> desk.clerk(1, 'X'));
    }

    /** "IllegalState: the CASE was closed" */
    private static void closedCase() {
        busy.refuseState("clerk", desk -> desk.clerk(1, 'A'));
        busy.refuseState("resubmit", desk -> desk.resubmit(1));
    }

    /** "or there are 10 MESSAGES". */
    private static void resubmitWithTenMessages() {
        fullOfMessages.refuseState("an empty text", desk -> desk.resubmit(1));
        Twins typed = new Twins(check, "10 messages and texts", desk -> {
            Desks.makeCases(desk, 3);
            Desks.fillMessages(desk, 9);
            Desks.closeCase(desk, 1);
            Teleprinter.clerk(desk, 2, "001 1 KILN");
            Teleprinter.clerk(desk, 3, "001 1 YARD");
        });
        typed.refuseState("a closed one", desk -> desk.resubmit(1));
        typed.refuseState("a sound text", desk -> desk.resubmit(2));
        typed.refuseState("a text without route", desk -> desk.resubmit(3));
        typed.take("the clerk types on", desk -> desk.clerk(2, 'A'));
    }

    private static void lookingChangesNothing() {
        for (int what : new int[] {-1, 0, 1, 2, 3}) {
            busy.stayTheSame("count " + what, desk -> desk.count(what));
        }
        for (int i = 0; i < 8; i++) {
            int channel = i;
            busy.stayTheSame("receipt of " + channel, desk -> desk.receipt(channel));
            busy.stayTheSame("askFor of " + channel, desk -> desk.askFor(channel));
            busy.stayTheSame("queued of " + channel, desk -> desk.queued(channel, 4));
            busy.stayTheSame("trace of " + channel, desk -> desk.trace(1, channel));
        }
        for (int i = 1; i <= 3; i++) {
            int which = i;
            busy.stayTheSame("reason of " + which, desk -> desk.reason(which));
        }
    }

    private static void openingAndClosingAgainChangesNothing() {
        for (int i = 0; i < 8; i++) {
            int channel = i;
            boolean isOpen = channel != 6;
            busy.stayTheSame("open " + channel + " as it is", desk -> desk.open(channel, isOpen));
        }
        Twins closed = new Twins(check, "closed in the midst of sending", Desks::closeInTheMidst);
        closed.stayTheSame("closing it again", desk -> desk.open(1, false));
        closed.stayTheSame("send", desk -> desk.send(1));
        closed.stayTheSame("cut", RelayDesk::cut);
    }

    /** "NONE (and nothing happens) if the channel is closed." */
    private static void closedChannelTakesNothing() {
        for (int i = 0; i < 32; i++) {
            int s = i;
            busy.stayTheSame("sign " + s + " on a closed channel", desk -> desk.sign(6, s));
        }
        busy.stayTheSame("a whole message on a closed channel", desk -> {
            for (int s : Teleprinter.signsOf("001 1 KILN\nNNNN\n")) {
                desk.sign(6, s);
            }
        });
        busy.stayTheSame("send on a closed channel", desk -> desk.send(6));
    }

    /** "if its number is IGNORED, nothing. If there are 10 MESSAGES already, nothing, too (and its number is not taken)." */
    private static void ignoredAndFullChangeNothing() {
        for (String text : new String[] {"005 1 KILN\n", "001 1 KILN\n", "003\n", "026 1 KILN\n", "999 1 YARD\n"}) {
            busy.stayTheSame("IGNORED " + text, desk -> Teleprinter.message(desk, 0, text));
        }
        for (String text : new String[] {"011 1 KILN\n", "030 1 KILN\n", "015\n", "012 1\n", "013 1 YARD\n", "011 1 KILN\n" + "X".repeat(60) + "\n"}) {
            fullOfMessages.stayTheSame("FULL " + text, desk -> Teleprinter.message(desk, 0, text));
        }
        Twins missing = new Twins(check, "10 messages and missing ones", desk -> {
            Desks.fillMessages(desk, 9);
            Teleprinter.message(desk, 0, "012 1 KILN\n");
        });
        for (String text : new String[] {"010 1 KILN\n", "011\n", "032 1 KILN\n"}) {
            missing.stayTheSame("FULL " + text, desk -> Teleprinter.message(desk, 0, text));
        }
    }

    private static void nothingToSendOrToAskFor() {
        for (int i = 0; i < 8; i++) {
            int channel = i;
            fresh.stayTheSame("send of " + channel, desk -> desk.send(channel));
            busy.stayTheSame("a number that may not be asked for", desk -> desk.rerun(channel, 3));
        }
        fresh.stayTheSame("cut", RelayDesk::cut);
    }
}
