/** Desks in the states that boundaries need; none of them takes more than 230 of the 512 calls. */
final class Desks {
    static final int KILN = Teleprinter.indicator("KILN");
    static final int LOFT = Teleprinter.indicator("LOFT");
    static final int TEAM = Teleprinter.indicator("TEAM");
    static final int CREW = Teleprinter.indicator("CREW");
    static final int YARD = Teleprinter.indicator("YARD");

    private Desks() {
    }

    /** KILN goes to channel 1, or to 2; LOFT to 3. */
    static void route(RelayDesk desk) {
        desk.route(KILN, 1, 2);
        desk.route(LOFT, 3, 3);
    }

    /** Something of everything: routes, messages in all stages, cases, numbers missing, texts half come in. */
    static void makeBusy(RelayDesk desk) {
        route(desk);
        desk.group(TEAM, KILN);
        desk.group(TEAM, LOFT);
        desk.group(CREW, TEAM);
        Teleprinter.message(desk, 0, "001 2 KILN\n");
        Teleprinter.message(desk, 0, "003 1 CREW\n");
        Teleprinter.message(desk, 0, "005 4 KILN\n");
        Teleprinter.receive(desk, 1);
        Teleprinter.skip(desk, 1, 6);
        desk.rerun(1, 1);
        makeCases(desk, 3);
        Teleprinter.clerk(desk, 1, "001 3 LOFT");
        desk.resubmit(1);
        Teleprinter.clerk(desk, 2, "001 1 KILN\nA");
        Teleprinter.type(desk, 5, "001 1 KILN\nA1");
        desk.open(6, false);
    }

    /** Six routes and six groups, one of them with four members. */
    static void fillRoutes(RelayDesk desk) {
        route(desk);
        for (int i = 0; i < 4; i++) {
            desk.route(i, i, 4 + i);
            desk.group(TEAM, i);
            desk.group(100 + i, i);
        }
        desk.group(CREW, TEAM);
    }

    static void fillMessages(RelayDesk desk, int messages) {
        route(desk);
        for (int i = 0; i < messages; i++) {
            Teleprinter.message(desk, 0, String.format("%03d 1 KILN\n", desk.receipt(0) % 999 + 1));
        }
    }

    /** Cases of the fault NUMBER, which need the fewest signs. */
    static void makeCases(RelayDesk desk, int cases) {
        for (int i = 0; i < cases; i++) {
            Teleprinter.message(desk, 0, "");
        }
    }

    static void closeCase(RelayDesk desk, int which) {
        Teleprinter.clerk(desk, which, "001 1 KILN");
        desk.resubmit(which);
    }

    /** Messages 1 .. SENT on channel 1 as 1 .. SENT. */
    static void haveSent(RelayDesk desk, int sent) {
        fillMessages(desk, sent);
        for (int i = 0; i < sent; i++) {
            Teleprinter.receive(desk, 1);
        }
    }

    /** Channel 1 is closed while it sends something again, something else is asked for, and a message waits. */
    static void closeInTheMidst(RelayDesk desk) {
        haveSent(desk, 2);
        Teleprinter.message(desk, 0, "004 1 KILN\n");
        desk.rerun(1, 1);
        desk.rerun(1, 2);
        Teleprinter.skip(desk, 1, 9);
        desk.open(1, false);
    }

    static void askThrice(RelayDesk desk) {
        haveSent(desk, 3);
        desk.rerun(1, 2);
        desk.rerun(1, 3);
        desk.rerun(1, 1);
    }
}
