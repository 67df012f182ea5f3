/** Compares made-up runs, the same ones every time, with the Model: every promise, and that a call that throws changes nothing. */
public final class RandomRunsTest {
    private static final int RUNS = 3000;
    private static final int CALLS = 512;
    private static final String[] NAMES = {"AAAA", "AAAB", "KILN", "LOFT", "YARD", "ZZZZ", "TEAM", "CREW", "GANG", "BAND",
        "MOBS", "NONE", "NNNN", "XRAY", "PATH"};
    private static final String ODD = "RN1 A\n0.X9 N";
    private static final Check check = new Check("RandomRunsTest");

    private final int run;
    private final int focus;
    private final RelayDesk desk = new RelayDesk();
    private final Model model = new Model();
    private long seed;
    private int calls;

    private RandomRunsTest(int run) {
        this.run = run;
        this.focus = 1 + run % 4;
        this.seed = run * 7919L + 17;
    }

    public static void main(String[] args) {
        for (int run = 0; run < RUNS && check.wrongOnes() < 20; run++) {
            new RandomRunsTest(run).go();
        }
        check.end();
    }

    private int any(int bound) {
        seed = seed * 6364136223846793005L + 1442695040888963407L;
        return (int) ((seed >>> 33) % bound);
    }

    private boolean oneIn(int bound) {
        return any(bound) == 0;
    }

    private interface Call {
        Object made();
    }

    private static Object outcome(Call call) {
        try {
            return call.made();
        } catch (RuntimeException e) {
            return e.getClass().getSimpleName();
        }
    }

    private int compare(String what, Call got, Call want) {
        calls++;
        if (calls > CALLS) {
            return 0;
        }
        Object due = outcome(want);
        check.same("run " + run + " call " + calls + " " + what, outcome(got).toString(), due.toString());
        return due instanceof Integer ? (Integer) due : 0;
    }

    private void go() {
        int setUp = any(14);
        for (int i = 0; i < setUp; i++) {
            setRoute();
        }
        while (calls < CALLS) {
            step();
        }
    }

    private void step() {
        int kind = any(24);
        if (kind < 6) {
            typeMessage();
        } else if (kind < 11) {
            sendSome();
        } else if (kind < 13) {
            askAgain();
        } else if (kind < 15) {
            workOnCase();
        } else if (kind == 15) {
            setRoute();
        } else if (kind == 16) {
            openOrClose();
        } else if (kind == 17 && oneIn(3)) {
            compare("cut", () -> { desk.cut(); return 0; }, () -> { model.cut(); return 0; });
        } else if (kind == 18) {
            typeOne(channel(), any(32) + (oneIn(20) ? 20 : 0));
        } else {
            look();
        }
    }

    private int channel() {
        return oneIn(60) ? any(12) - 2 : oneIn(6) ? any(8) : any(focus);
    }

    private String name() {
        return NAMES[any(focus > 2 ? NAMES.length : 6)];
    }

    private int indicator() {
        return oneIn(60) ? 456970 + any(10) : oneIn(60) ? any(4) - 2 : Teleprinter.indicator(name());
    }

    private void setRoute() {
        int a = indicator();
        if (oneIn(2)) {
            int b = channel();
            int c = channel();
            compare("route " + a + " " + b + " " + c, () -> { desk.route(a, b, c); return 0; }, () -> { model.route(a, b, c); return 0; });
        } else {
            int b = indicator();
            compare("group " + a + " " + b, () -> desk.group(a, b), () -> model.group(a, b));
        }
    }

    private void openOrClose() {
        int a = channel();
        boolean is = any(3) > 0;
        compare("open " + a + " " + is, () -> desk.open(a, is), () -> model.open(a, is));
    }

    private void typeOne(int a, int s) {
        compare("sign " + a + " " + s, () -> desk.sign(a, s), () -> model.sign(a, s));
    }

    private void typeMessage() {
        int a = any(focus);
        String text = text(numberFor(a)) + (oneIn(20) ? "" : "\n") + bodyLines() + "NNNN\n";
        int[] signs = Teleprinter.signsOf(text);
        if (oneIn(10)) {
            typeOne(a, 28);
        }
        for (int s : signs) {
            typeOne(a, s);
        }
    }

    private int numberFor(int a) {
        int missing = model.askFor(a);
        if (missing != 0 && oneIn(3)) {
            return missing + any(2);
        }
        int ahead = oneIn(4) ? any(24) : 1;
        return (model.receipt(a) + ahead - 1) % 999 + 1;
    }

    private String text(int number) {
        StringBuilder text = new StringBuilder(blanks(0));
        text.append(oneIn(25) ? "" + any(1100) : String.format("%03d", number)).append(blanks(1));
        if (oneIn(4)) {
            text.append("R").append(blanks(1));
        }
        text.append(oneIn(20) ? "" + any(12) : "" + (1 + any(4)));
        int names = oneIn(20) ? any(7) : 1 + any(focus);
        for (int i = 0; i < names; i++) {
            text.append(blanks(1)).append(oneIn(40) ? "ABC" + odd(1) : name());
        }
        return text.append(blanks(0)).toString();
    }

    private String blanks(int least) {
        return " ".repeat(least + (oneIn(12) ? any(4) : 0));
    }

    private String odd(int length) {
        StringBuilder text = new StringBuilder();
        for (int i = 0; i < length; i++) {
            text.append(ODD.charAt(any(ODD.length())));
        }
        return text.toString();
    }

    private String bodyLines() {
        int kind = any(8);
        if (kind < 4) {
            return "";
        }
        return odd(kind == 7 ? any(70) : any(12)) + "\n";
    }

    private void sendSome() {
        int a = channel();
        int most = oneIn(3) ? any(12) : 60;
        for (int i = 0; i < most && calls < CALLS; i++) {
            int s = compare("send " + a, () -> desk.send(a), () -> model.send(a));
            if (s == RelayDesk.NONE) {
                return;
            }
        }
    }

    private void askAgain() {
        int a = channel();
        int number = oneIn(40) ? any(3) * 500 : 1 + any(6);
        compare("rerun " + a + " " + number, () -> desk.rerun(a, number), () -> model.rerun(a, number));
    }

    private void workOnCase() {
        int which = oneIn(20) ? any(9) - 1 : 1 + any(Math.max(1, model.count(1)));
        if (oneIn(20)) {
            char c = (char) any(300);
            compare("clerk " + which + " " + (int) c, () -> { desk.clerk(which, c); return 0; }, () -> { model.clerk(which, c); return 0; });
        }
        if (model.count(2) > 0 || oneIn(10)) {
            String text = text(1 + any(999)) + (oneIn(2) ? "\n" + odd(any(oneIn(4) ? 50 : 9)) : "");
            for (char c : text.toCharArray()) {
                compare("clerk " + which + " " + (int) c, () -> { desk.clerk(which, c); return 0; }, () -> { model.clerk(which, c); return 0; });
            }
        }
        if (any(5) > 0) {
            compare("resubmit " + which, () -> desk.resubmit(which), () -> model.resubmit(which));
        }
    }

    private void look() {
        int a = channel();
        int b = any(13) - 1;
        switch (any(6)) {
            case 0:
                compare("receipt " + a, () -> desk.receipt(a), () -> model.receipt(a));
                break;
            case 1:
                compare("askFor " + a, () -> desk.askFor(a), () -> model.askFor(a));
                break;
            case 2:
                compare("queued " + a + " " + b % 6, () -> desk.queued(a, b % 6), () -> model.queued(a, b % 6));
                break;
            case 3:
                compare("trace " + b + " " + a, () -> desk.trace(b, a), () -> model.trace(b, a));
                break;
            case 4:
                compare("reason " + b % 8, () -> desk.reason(b % 8), () -> model.reason(b % 8));
                break;
            default:
                compare("count " + b % 4, () -> desk.count(b % 4), () -> model.count(b % 4));
                break;
        }
    }
}
