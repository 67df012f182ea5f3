/**
 * Ways to look at all that a desk holds. Each one is used on a desk of its own, since most of them change it, and
 * makes at most 280 calls, so that the desk stays below its 512.
 */
final class Probes {
    private static final int CHANNELS = 8;
    private static final int WHOLE_DESK = 9;
    static final int COUNT = WHOLE_DESK + 3 * CHANNELS;
    private static final int MOST_CALLS = 280;
    private static final int END_CALLS = 12;
    private static final String[] NAMES = {"KILN", "LOFT", "TEAM", "CREW", "YARD", "AAAA"};

    private interface Call {
        Object made();
    }

    private final RelayDesk desk;
    private final StringBuilder answers = new StringBuilder();
    private int calls;

    private Probes(RelayDesk desk) {
        this.desk = desk;
    }

    static String answers(int probe, RelayDesk desk) {
        Probes it = new Probes(desk);
        it.look(probe);
        return it.answers.toString();
    }

    private void look(int probe) {
        switch (probe) {
            case 0: lookAtAllThatCanBeRead(); break;
            case 1: countRoomForRoutes(); break;
            case 2: tryGroups(); break;
            case 3: followNames(); break;
            case 4: closeSomeAndFollowNames(); break;
            case 5: handInTheClerksTexts(); break;
            case 6: fillTheClerksTexts(); break;
            case 7: askForAll(); break;
            case 8: countRoomInGroups(); break;
            default: lookAtChannel((probe - WHOLE_DESK) / 3, (probe - WHOLE_DESK) % 3); break;
        }
    }

    private void lookAtChannel(int channel, int how) {
        if (how == 0) {
            sendAll(channel);
        } else if (how == 1) {
            endWhatIsGathered(channel);
        } else {
            useUpNumbers(channel);
        }
    }

    private Object note(Call call) {
        calls++;
        Object outcome;
        try {
            outcome = call.made();
        } catch (RuntimeException e) {
            outcome = e.getClass().getSimpleName();
        }
        answers.append(outcome).append(' ');
        return outcome;
    }

    private boolean hasCalls(int needed) {
        return calls + needed <= MOST_CALLS;
    }

    private void lookAtAllThatCanBeRead() {
        for (int i = 0; i < CHANNELS; i++) {
            int channel = i;
            note(() -> desk.receipt(channel));
            note(() -> desk.askFor(channel));
            for (int k = 1; k <= 4; k++) {
                int precedence = k;
                note(() -> desk.queued(channel, precedence));
            }
            for (int k = 1; k <= 11; k++) {
                int message = k;
                note(() -> desk.trace(message, channel));
            }
        }
        for (int i = 1; i <= 7; i++) {
            int which = i;
            note(() -> desk.reason(which));
        }
        for (int i = 0; i < 3; i++) {
            int what = i;
            note(() -> desk.count(what));
        }
        for (int i = 0; i < CHANNELS; i++) {
            int channel = i;
            note(() -> desk.open(channel, true));
        }
    }

    private void countRoomForRoutes() {
        for (int i = 0; i < 13; i++) {
            int indicator = 400000 + i;
            note(() -> { desk.route(indicator, 0, 0); return "routed"; });
        }
    }

    private void tryGroups() {
        for (String group : NAMES) {
            for (String member : NAMES) {
                note(() -> desk.group(Teleprinter.indicator(group), Teleprinter.indicator(member)));
            }
        }
    }

    private void countRoomInGroups() {
        for (String group : NAMES) {
            for (int i = 0; i < 5; i++) {
                int member = 300000 + i;
                note(() -> desk.group(Teleprinter.indicator(group), member));
            }
        }
    }

    private void followNames() {
        desk.cut();
        note(() -> desk.open(7, true));
        for (String name : NAMES) {
            int number = desk.receipt(7) % 999 + 1;
            note(() -> Teleprinter.message(desk, 7, String.format("%03d 1 %s\n", number, name)));
            for (int i = 0; i < CHANNELS; i++) {
                int channel = i;
                note(() -> desk.trace(desk.count(0), channel));
            }
        }
    }

    private void closeSomeAndFollowNames() {
        for (int i = 0; i < 4; i++) {
            int channel = i;
            note(() -> desk.open(channel, false));
        }
        followNames();
    }

    private void handInTheClerksTexts() {
        for (int i = 1; i <= 7; i++) {
            int which = i;
            note(() -> desk.resubmit(which));
            note(() -> desk.reason(which));
        }
        note(() -> desk.count(0));
        sendAll(3);
        sendAll(1);
    }

    private void fillTheClerksTexts() {
        for (int i = 1; i <= 7; i++) {
            int which = i;
            Object outcome = "taken";
            while (outcome.equals("taken") && hasCalls(1)) {
                outcome = note(() -> { desk.clerk(which, 'X'); return "taken"; });
            }
        }
    }

    private void askForAll() {
        for (int i = 0; i < CHANNELS; i++) {
            int channel = i;
            for (int k = 11; k >= 1; k--) {
                int number = k;
                note(() -> desk.rerun(channel, number));
            }
        }
    }

    private void sendAll(int channel) {
        note(() -> desk.open(channel, true));
        Object sign = 0;
        while (!sign.equals(RelayDesk.NONE) && hasCalls(1)) {
            sign = note(() -> desk.send(channel));
        }
    }

    /** The first line that is NNNN in LETTERS alone tells which shift the channel is in. */
    private void endWhatIsGathered(int channel) {
        for (int s : new int[] {1, 27, 13, 13, 13, 13, 27, 28, 13, 13, 13, 13, 27}) {
            note(() -> desk.sign(channel, s));
        }
        note(() -> desk.receipt(channel));
        for (int i = 0; i < 3; i++) {
            int what = i;
            note(() -> desk.count(what));
        }
        note(() -> desk.reason(desk.count(1)));
        sendAll(1);
    }

    private void useUpNumbers(int channel) {
        desk.cut();
        note(() -> desk.open(channel, true));
        while (desk.askFor(channel) != 0 && hasCalls(6 * END_CALLS)) {
            calls += END_CALLS;
            takeNumber(channel, desk.askFor(channel));
        }
        for (int ahead : new int[] {21, 20, 1}) {
            takeNumber(channel, (desk.receipt(channel) + ahead - 1) % 999 + 1);
        }
        note(() -> desk.askFor(channel));
    }

    private void takeNumber(int channel, int number) {
        note(() -> Teleprinter.message(desk, channel, String.format("%03d\n", number)));
        note(() -> desk.receipt(channel));
    }
}
