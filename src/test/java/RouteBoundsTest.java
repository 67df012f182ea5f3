import java.util.Arrays;

/** Boundaries of ROUTES and ROUTING (promises 5 and 6): a method for each sentence. Refusals stand in RefusedCallsTest. */
public final class RouteBoundsTest {
    private static final Check check = new Check("RouteBoundsTest");

    public static void main(String[] args) {
        toldByItsLetters();
        anyAlternateAlsoTheSame();
        groupsOfUpToFour();
        twelveOfBoth();
        membersAreNoneOfTheTwelve();
        oneOfTheTwelveIsSetAnew();
        closedOnesAndTheirAlternates();
        alternateOfTheIndicatorThatLeadsThere();
        eachChannelOnce();
        allEightChannels();
        groupsAndSoOn();
        neitherRouteNorMembers();
        ofAnyDepth();
        leadsToItThroughGroups();
        routedOnce();
        check.end();
    }

    private static int name(String letters) {
        return Teleprinter.indicator(letters);
    }

    /** The channels to which a message with these indicators goes, as digits. */
    private static String channelsOf(RelayDesk desk, String indicators) {
        String text = String.format("%03d 1 %s\n", desk.receipt(7) % 999 + 1, indicators);
        check.same(indicators + " is taken", Teleprinter.message(desk, 7, text), RelayDesk.TAKEN);
        StringBuilder channels = new StringBuilder();
        for (int channel = 0; channel < 8; channel++) {
            if (desk.trace(desk.count(0), channel) == RelayDesk.NONE) {
                channels.append(channel);
            }
        }
        return channels.toString();
    }

    /** "told by its letters, 26 times 26 times 26 times the first (A is 0) and so on". */
    private static void toldByItsLetters() {
        int[] numbers = {0, 1, 25, 26, 675, 676, 17575, 17576, 456974, 456975};
        String[] letters = {"AAAA", "AAAB", "AAAZ", "AABA", "AAZZ", "ABAA", "AZZZ", "BAAA", "ZZZY", "ZZZZ"};
        for (int i = 0; i < numbers.length; i++) {
            RelayDesk desk = new RelayDesk();
            desk.route(numbers[i], 3, 3);
            check.same("as a route", channelsOf(desk, letters[i]), "3");
            check.same("as it is sent", Teleprinter.receive(desk, 3), "001 1 " + letters[i] + "\nNNNN\n");
            RelayDesk other = new RelayDesk();
            other.route(name("KILN"), 4, 4);
            other.group(numbers[i], name("KILN"));
            check.same("as a group", channelsOf(other, letters[i]), "4");
            other.group(name("TEAM"), numbers[i]);
            check.same("as a member", channelsOf(other, "TEAM"), "4");
            check.same("no case", desk.count(1) + other.count(1), 0);
        }
    }

    /** "a channel and an alternate (any one, also the same)". */
    private static void anyAlternateAlsoTheSame() {
        for (int channel = 0; channel < 7; channel++) {
            for (int alternate = 0; alternate < 7; alternate++) {
                RelayDesk desk = new RelayDesk();
                desk.route(0, channel, alternate);
                check.same("open", channelsOf(desk, "AAAA"), "" + channel);
                desk.open(channel, false);
                check.same("closed", channelsOf(desk, "AAAA"), "" + alternate);
            }
        }
    }

    /** "or is a GROUP of up to 4 others": how many it has, one to four; the fifth is refused. */
    private static void groupsOfUpToFour() {
        RelayDesk desk = new RelayDesk();
        for (int i = 1; i <= 4; i++) {
            desk.route(i, i, i);
            check.same("how many it has", desk.group(0, i), i);
            check.same("where it leads", channelsOf(desk, "AAAA"), "1234".substring(0, i));
        }
        check.refusesState("a fifth", () -> desk.group(0, 5));
        check.same("another group has its own", desk.group(6, 1), 1);
    }

    /** "there are at most 12 of both": 12 routes, 12 GROUPS, and some of both. */
    private static void twelveOfBoth() {
        for (int routes : new int[] {0, 1, 6, 11, 12}) {
            RelayDesk desk = new RelayDesk();
            for (int i = 0; i < 12; i++) {
                int it = 100 + i;
                if (i < routes) {
                    check.takes("the route " + i, () -> desk.route(it, 1, 1));
                } else {
                    check.same("the group " + i, desk.group(it, 200), 1);
                }
            }
            check.refusesState("a 13th, a route", () -> desk.route(112, 1, 1));
            check.refusesState("a 13th, a group", () -> desk.group(112, 200));
            check.refusesState("still", () -> desk.route(112, 1, 1));
        }
        RelayDesk eleven = new RelayDesk();
        for (int i = 0; i < 11; i++) {
            eleven.route(i, 1, 1);
        }
        check.same("a 12th, a group", eleven.group(11, 300), 1);
        check.refusesState("a 13th", () -> eleven.group(300, 301));
        check.same("the 12th has room", eleven.group(11, 301), 2);
    }

    private static void membersAreNoneOfTheTwelve() {
        RelayDesk desk = new RelayDesk();
        for (int i = 0; i < 4; i++) {
            for (int k = 0; k < 4; k++) {
                check.same("16 members", desk.group(i, 100 + 4 * i + k), k + 1);
            }
        }
        for (int i = 0; i < 8; i++) {
            int it = 100 + i;
            check.takes("8 routes more", () -> desk.route(it, 1, 1));
        }
        check.refusesState("a 13th that is a member", () -> desk.route(108, 1, 1));
    }

    private static void oneOfTheTwelveIsSetAnew() {
        RelayDesk desk = new RelayDesk();
        for (int i = 0; i < 12; i++) {
            desk.route(i, 1, 1);
        }
        desk.route(0, 2, 2);
        desk.route(11, 3, 3);
        check.same("the first", channelsOf(desk, "AAAA"), "2");
        check.same("the second", channelsOf(desk, "AAAB"), "1");
        check.same("the last", channelsOf(desk, "AAAL"), "3");
        check.refusesState("a 13th", () -> desk.route(12, 1, 1));
    }

    /** "instead of a closed one its alternate, if that is open, else the closed one itself". */
    private static void closedOnesAndTheirAlternates() {
        for (int i = 0; i < 4; i++) {
            boolean isOpen = i % 2 == 0;
            boolean isAlternateOpen = i < 2;
            RelayDesk desk = new RelayDesk();
            desk.route(name("KILN"), 1, 2);
            desk.group(name("TEAM"), name("KILN"));
            desk.open(1, isOpen);
            desk.open(2, isAlternateOpen);
            String due = !isOpen && isAlternateOpen ? "2" : "1";
            check.same("open " + isOpen + ", alternate open " + isAlternateOpen, channelsOf(desk, "KILN"), due);
            check.same("in a group", channelsOf(desk, "TEAM"), due);
            check.same("no case", desk.count(1), 0);
        }
    }

    /** "its alternate (of the indicator that leads there)", and not that of the alternate, nor another's. */
    private static void alternateOfTheIndicatorThatLeadsThere() {
        RelayDesk desk = new RelayDesk();
        desk.route(name("KILN"), 1, 2);
        desk.route(name("LOFT"), 2, 3);
        desk.route(name("PATH"), 1, 4);
        desk.route(name("SAME"), 1, 1);
        desk.open(1, false);
        check.same("each its own", channelsOf(desk, "KILN PATH SAME"), "124");
        desk.open(2, false);
        check.same("the alternate's alternate is not asked", channelsOf(desk, "KILN"), "1");
        check.same("only for the one that leads there", channelsOf(desk, "KILN LOFT"), "13");
        check.same("one goes round, one does not", channelsOf(desk, "KILN PATH"), "14");
    }

    /** "Each channel that comes of it once gets it as an ENTRY." */
    private static void eachChannelOnce() {
        RelayDesk desk = new RelayDesk();
        desk.route(name("KILN"), 1, 2);
        desk.route(name("LOFT"), 1, 3);
        desk.route(name("YARD"), 2, 2);
        desk.group(name("TEAM"), name("KILN"));
        desk.group(name("TEAM"), name("LOFT"));
        String[] indicators = {"KILN", "KILN KILN KILN KILN", "KILN LOFT", "TEAM", "TEAM KILN", "TEAM TEAM LOFT"};
        for (int i = 0; i < indicators.length; i++) {
            check.same("one channel", channelsOf(desk, indicators[i]), "1");
            check.same("one ENTRY", desk.queued(1, 1), i + 1);
        }
        desk.open(1, false);
        check.same("its alternate is another's channel", channelsOf(desk, "KILN YARD"), "2");
        check.same("one ENTRY", desk.queued(2, 1), 1);
        check.same("as it is sent", Teleprinter.receive(desk, 2), "001 1 KILN YARD\nNNNN\n");
        check.same("once", desk.send(2), RelayDesk.NONE);
    }

    private static void allEightChannels() {
        RelayDesk desk = new RelayDesk();
        for (int i = 0; i < 8; i++) {
            desk.route(i, i, i);
            desk.group(i < 4 ? 100 : 200, i);
        }
        desk.group(300, 100);
        desk.group(300, 200);
        check.same("two groups of four", channelsOf(desk, "AADW AAHS"), "01234567");
        check.same("a group of both", channelsOf(desk, "AALO"), "01234567");
        check.same("four indicators", channelsOf(desk, "AAAA AAAC AAAE AAAH"), "0247");
        for (int channel = 0; channel < 8; channel++) {
            check.same("a number of each channel", Teleprinter.receive(desk, channel), "001 1 AADW AAHS\nNNNN\n");
            check.same("what became of it", desk.trace(1, channel), 1);
        }
    }

    /** "those of a GROUP being those of its members, and so on": chains of each length that 12 allow. */
    private static void groupsAndSoOn() {
        for (int length = 1; length <= 11; length++) {
            for (boolean isUpwards : new boolean[] {true, false}) {
                RelayDesk desk = new RelayDesk();
                for (int i = 0; i < length; i++) {
                    int group = isUpwards ? i : length - 1 - i;
                    desk.group(group, group + 1);
                }
                desk.route(length, 5, 5);
                check.same("a chain of " + length, channelsOf(desk, "AAAA"), "5");
                check.same("no case", desk.count(1), 0);
            }
        }
    }

    /** "If some indicator has neither route nor members, there is a CASE, too, ROUTE (5)." */
    private static void neitherRouteNorMembers() {
        String[] indicators = {"KILN", "YARD", "YARD KILN", "KILN YARD", "KILN LOFT KILN YARD", "YARD PATH", "KILN LOFT"};
        String[] channels = {"1", "", "1", "1", "13", "", "13"};
        int[] cases = {0, 1, 1, 1, 1, 1, 0};
        for (int i = 0; i < indicators.length; i++) {
            RelayDesk desk = new RelayDesk();
            Desks.route(desk);
            check.same(indicators[i], channelsOf(desk, indicators[i]), channels[i]);
            check.same("cases for it", desk.count(1), cases[i]);
            check.same("the reason", cases[i] == 0 ? 5 : desk.reason(1), 5);
            check.same("a MESSAGE all the same", desk.count(0), 1);
        }
    }

    /** "(of any depth)": chains of each length that 12 allow; the others get it all the same. */
    private static void ofAnyDepth() {
        for (int length = 1; length <= 12; length++) {
            for (boolean isUpwards : new boolean[] {true, false}) {
                boolean hasOther = length <= 11;
                RelayDesk desk = new RelayDesk();
                for (int i = 0; i < length; i++) {
                    int group = isUpwards ? i : length - 1 - i;
                    desk.group(group, group + 1);
                }
                if (hasOther) {
                    desk.route(name("KILN"), 1, 1);
                    desk.group(0, name("KILN"));
                }
                check.same("nothing behind " + length, channelsOf(desk, "AAAA"), hasOther ? "1" : "");
                check.same("a case", desk.count(1), 1);
                check.same("its reason", desk.reason(1), 5);
                Desks.makeCases(desk, 1);
                Teleprinter.clerk(desk, 2, "001 1 AAAA");
                check.same("handed in", desk.resubmit(2), 5);
                if (length <= 10) {
                    desk.route(length, 6, 6);
                    check.same("a route behind " + length, channelsOf(desk, "AAAA"), "16");
                    check.same("no case more", desk.count(1), 2);
                }
            }
        }
    }

    /** "or leads to it through GROUPS": rings of each length are refused, and no more than rings. */
    private static void leadsToItThroughGroups() {
        for (int length = 1; length <= 12; length++) {
            for (boolean isUpwards : new boolean[] {true, false}) {
                RelayDesk desk = new RelayDesk();
                for (int i = 0; i < length; i++) {
                    int group = isUpwards ? i : length - 1 - i;
                    desk.group(group, group + 1);
                }
                int last = length;
                check.refusesArgument("a ring of " + length + " and one", () -> desk.group(last, 0));
                check.refusesArgument("a ring of " + length, () -> desk.group(last - 1, 0));
                if (length > 1) {
                    check.same("another way down", desk.group(0, last), 2);
                }
            }
        }
        RelayDesk wide = new RelayDesk();
        for (int member : Arrays.asList(1, 2, 3, 4)) {
            wide.group(0, member);
        }
        wide.group(4, 5);
        check.refusesArgument("through the last of four", () -> wide.group(5, 0));
        check.same("a member of two groups", wide.group(4, 1), 2);
    }

    /** Routes and channels count as they are when the END comes. */
    private static void routedOnce() {
        RelayDesk desk = new RelayDesk();
        Desks.route(desk);
        desk.open(1, false);
        check.same("round", channelsOf(desk, "KILN"), "2");
        desk.open(1, true);
        desk.route(name("KILN"), 4, 4);
        check.same("it stays where it was routed", desk.trace(1, 2), RelayDesk.NONE);
        check.same("not there", desk.trace(1, 1), 0);
        check.same("nor there", desk.trace(1, 4), 0);
        check.same("the next", channelsOf(desk, "KILN"), "4");
        check.same("nowhere", channelsOf(desk, "YARD"), "");
        desk.route(name("YARD"), 5, 5);
        check.same("it is not routed later", desk.trace(3, 5), 0);
    }
}
