/** Promises 5 and 6: routes and groups, and where messages go by them. */
public final class RoutesTest {
    private static final int LAST_INDICATOR = 26 * 26 * 26 * 26 - 1;
    private static final Check check = new Check("RoutesTest");

    public static void main(String[] args) {
        indicatorsByTheirLetters();
        routeIsSetAnew();
        alternates();
        eachChannelOnce();
        groupsOfGroups();
        indicatorsThatLeadNowhere();
        atMostTwelve();
        atMostFourMembers();
        groupsThatAreRefused();
        argumentBeforeState();
        wrongArguments();
        check.end();
    }

    private static int name(String letters) {
        return Teleprinter.indicator(letters);
    }

    /** The channels to which a message with these indicators goes, as digits. */
    private static String channelsOf(RelayDesk desk, String indicators) {
        check.same("is taken", Teleprinter.message(desk, 0, String.format("%03d 1 %s\n", desk.count(0) + 1, indicators)), RelayDesk.TAKEN);
        StringBuilder channels = new StringBuilder();
        for (int channel = 0; channel < 8; channel++) {
            if (desk.trace(desk.count(0), channel) != 0) {
                channels.append(channel);
            }
        }
        return channels.toString();
    }

    private static void indicatorsByTheirLetters() {
        RelayDesk desk = new RelayDesk();
        desk.route(0, 1, 1);
        desk.route(1, 2, 2);
        desk.route(26, 3, 3);
        desk.route(676, 4, 4);
        desk.route(17576, 5, 5);
        desk.route(LAST_INDICATOR, 6, 6);
        String[] names = {"AAAA", "AAAB", "AABA", "ABAA", "BAAA", "ZZZZ"};
        for (int i = 0; i < names.length; i++) {
            check.same(names[i], channelsOf(desk, names[i]), "" + (i + 1));
            check.same("as it is sent", Teleprinter.receive(desk, i + 1), "001 1 " + names[i] + "\nNNNN\n");
        }
    }

    private static void routeIsSetAnew() {
        RelayDesk desk = new RelayDesk();
        desk.route(5, 1, 2);
        desk.route(5, 3, 4);
        check.same("the new channel", channelsOf(desk, "AAAF"), "3");
        desk.open(3, false);
        check.same("the new alternate", channelsOf(desk, "AAAF"), "4");
        desk.route(5, 1, 1);
        check.same("what was routed stays", desk.trace(1, 3), RelayDesk.NONE);
    }

    private static void alternates() {
        RelayDesk desk = new RelayDesk();
        desk.route(name("KILN"), 1, 2);
        desk.route(name("SAME"), 3, 3);
        desk.route(name("PATH"), 1, 4);
        check.same("open", channelsOf(desk, "KILN"), "1");
        desk.open(1, false);
        check.same("closed, its alternate open", channelsOf(desk, "KILN"), "2");
        check.same("each indicator has its own alternate", channelsOf(desk, "KILN PATH"), "24");
        desk.open(2, false);
        check.same("both closed", channelsOf(desk, "KILN"), "1");
        check.same("one alternate open", channelsOf(desk, "KILN PATH"), "14");
        desk.open(3, false);
        check.same("the same as alternate", channelsOf(desk, "SAME"), "3");
        desk.open(1, true);
        check.same("the channel open, the alternate closed", channelsOf(desk, "KILN"), "1");
        check.same("routed as it was then", desk.trace(2, 1), 0);
    }

    private static void eachChannelOnce() {
        RelayDesk desk = new RelayDesk();
        desk.route(name("KILN"), 1, 2);
        desk.route(name("LOFT"), 1, 3);
        desk.route(name("YARD"), 0, 3);
        check.same("three indicators, two channels", channelsOf(desk, "KILN LOFT YARD KILN"), "01");
        check.same("one ENTRY", desk.queued(1, 1), 1);
        check.same("with all indicators", Teleprinter.receive(desk, 1), "001 1 KILN LOFT YARD KILN\nNNNN\n");
        check.same("and no more", desk.send(1), RelayDesk.NONE);
        check.same("back to where it came from", Teleprinter.receive(desk, 0), "001 1 KILN LOFT YARD KILN\nNNNN\n");
    }

    private static void groupsOfGroups() {
        RelayDesk desk = new RelayDesk();
        check.same("a new GROUP", desk.group(name("TOPS"), name("MIDS")), 1);
        check.same("one more", desk.group(name("TOPS"), name("KILN")), 2);
        check.same("a GROUP below", desk.group(name("MIDS"), name("LOWS")), 1);
        check.same("a GROUP below that", desk.group(name("LOWS"), name("YARD")), 1);
        check.same("a member of two GROUPS", desk.group(name("LOWS"), name("KILN")), 2);
        desk.route(name("KILN"), 1, 5);
        desk.route(name("YARD"), 2, 6);
        check.same("all of it", channelsOf(desk, "TOPS"), "12");
        check.same("a part", channelsOf(desk, "MIDS"), "12");
        desk.open(2, false);
        check.same("an alternate deep below", channelsOf(desk, "TOPS"), "16");
        check.same("no CASE", desk.count(1), 0);
        check.same("the GROUP's name is sent", Teleprinter.receive(desk, 1), "001 1 TOPS\nNNNN\n");
        longestChain();
    }

    private static void longestChain() {
        RelayDesk desk = new RelayDesk();
        for (int i = 10; i >= 0; i--) {
            check.same("a chain", desk.group(i, i + 1), 1);
        }
        desk.route(11, 7, 7);
        check.same("eleven GROUPS deep", channelsOf(desk, "AAAA"), "7");
        check.refusesArgument("a ring through all of them", () -> desk.group(10, 0));
        RelayDesk other = new RelayDesk();
        for (int i = 0; i <= 11; i++) {
            other.group(i, i + 1);
        }
        check.refusesArgument("a ring through all twelve", () -> other.group(11, 0));
        check.same("nowhere, twelve deep", channelsOf(other, "AAAA"), "");
        check.same("a CASE", other.reason(1), 5);
    }

    private static void indicatorsThatLeadNowhere() {
        RelayDesk desk = new RelayDesk();
        desk.route(name("KILN"), 1, 1);
        desk.group(name("TEAM"), name("KILN"));
        desk.group(name("TEAM"), name("GONE"));
        desk.group(name("BOTH"), name("TEAM"));
        check.same("one of two", channelsOf(desk, "KILN NONE"), "1");
        check.same("a CASE, too", desk.reason(1), 5);
        check.same("two that lead nowhere", channelsOf(desk, "NONE GONE"), "");
        check.same("one CASE for both", desk.count(1), 2);
        check.same("in a GROUP", channelsOf(desk, "TEAM"), "1");
        check.same("a CASE, too", desk.reason(3), 5);
        check.same("deeper", channelsOf(desk, "BOTH"), "1");
        check.same("a CASE, too", desk.reason(4), 5);
        desk.route(name("GONE"), 2, 2);
        check.same("it has a route now", channelsOf(desk, "BOTH"), "12");
        check.same("no CASE more", desk.count(1), 4);
    }

    private static void atMostTwelve() {
        RelayDesk desk = new RelayDesk();
        for (int i = 0; i < 6; i++) {
            desk.route(i, 1, 1);
            desk.group(100 + i, 200 + i);
        }
        check.refusesState("the 13th, a route", () -> desk.route(50, 1, 1));
        check.refusesState("a member has no row of its own", () -> desk.route(200, 1, 1));
        check.refusesState("the 13th, a GROUP", () -> desk.group(50, 51));
        check.takes("one of the twelve", () -> desk.route(5, 2, 2));
        check.same("one of the twelve", desk.group(105, 0), 2);
        check.refusesArgument("a GROUP as a route", () -> desk.route(100, 1, 1));
        check.refusesArgument("a route as a GROUP", () -> desk.group(0, 50));
    }

    private static void atMostFourMembers() {
        RelayDesk desk = new RelayDesk();
        for (int i = 1; i <= 4; i++) {
            check.same("how many it has", desk.group(0, i), i);
        }
        check.refusesState("the fifth", () -> desk.group(0, 5));
        check.refusesArgument("one that is in it", () -> desk.group(0, 4));
        check.refusesArgument("itself", () -> desk.group(0, 0));
        for (int i = 1; i <= 4; i++) {
            desk.route(i, i, i);
        }
        check.same("all four", channelsOf(desk, "AAAA"), "1234");
    }

    private static void groupsThatAreRefused() {
        RelayDesk desk = new RelayDesk();
        desk.route(1, 1, 1);
        check.refusesArgument("it has a route", () -> desk.group(1, 2));
        check.refusesArgument("the member is itself", () -> desk.group(3, 3));
        desk.group(3, 4);
        check.refusesArgument("in it already", () -> desk.group(3, 4));
        check.refusesArgument("leads to it, which is no GROUP yet", () -> desk.group(4, 3));
        desk.group(4, 5);
        desk.group(5, 6);
        check.refusesArgument("leads to it through two GROUPS", () -> desk.group(5, 3));
        check.refusesArgument("leads to it through three GROUPS", () -> desk.group(6, 3));
        check.refusesArgument("it is a GROUP", () -> desk.route(3, 1, 1));
        check.same("what was refused changed nothing", desk.group(3, 1), 2);
        check.takes("6 is no GROUP", () -> desk.route(6, 2, 2));
        check.same("a member that is below already", desk.group(3, 5), 3);
        check.same("all of it", channelsOf(desk, "AAAD"), "12");
    }

    private static void argumentBeforeState() {
        RelayDesk desk = new RelayDesk();
        for (int i = 0; i < 12; i++) {
            desk.group(i, i + 1);
        }
        check.refusesArgument("no such channel", () -> desk.route(50, 8, 0));
        check.refusesArgument("no such alternate", () -> desk.route(50, 0, -1));
        check.refusesArgument("no such member", () -> desk.group(50, -1));
        check.refusesArgument("the member leads to a 13th", () -> desk.group(12, 0));
        check.refusesArgument("itself, a 13th", () -> desk.group(50, 50));
        check.refusesState("a 13th", () -> desk.group(50, 0));
    }

    private static void wrongArguments() {
        RelayDesk desk = new RelayDesk();
        for (int wrong : new int[] {-1, LAST_INDICATOR + 1, Integer.MIN_VALUE, Integer.MAX_VALUE}) {
            check.refusesArgument("route of " + wrong, () -> desk.route(wrong, 0, 0));
            check.refusesArgument("group of " + wrong, () -> desk.group(wrong, 0));
            check.refusesArgument("member " + wrong, () -> desk.group(0, wrong));
        }
        for (int wrong : new int[] {-1, 8, Integer.MIN_VALUE, Integer.MAX_VALUE}) {
            check.refusesArgument("route to " + wrong, () -> desk.route(0, wrong, 0));
            check.refusesArgument("route around by " + wrong, () -> desk.route(0, 0, wrong));
        }
        check.takes("what was refused changed nothing", () -> desk.route(0, 7, 0));
        check.same("the last indicator", desk.group(LAST_INDICATOR, 0), 1);
    }
}
