/** Two desks with the same calls behind them, one with a call more: tells whether that one changed anything. */
final class Twins {
    interface Step {
        void on(RelayDesk desk);
    }

    private final Check check;
    private final String state;
    private final Step before;

    Twins(Check check, String state, Step before) {
        this.check = check;
        this.state = state;
        this.before = before;
    }

    void refuseArgument(String what, Step call) {
        refuse(what, "IllegalArgumentException", call);
    }

    void refuseState(String what, Step call) {
        refuse(what, "IllegalStateException", call);
    }

    void take(String what, Step call) {
        RelayDesk desk = made();
        check.same(state + ": " + what, Check.thrownBy(() -> call.on(desk)), "nothing");
    }

    /** Whatever the call answers or throws, nothing is changed behind it. */
    void stayTheSame(String what, Step call) {
        for (int i = 0; i < Probes.COUNT; i++) {
            RelayDesk with = made();
            Check.thrownBy(() -> call.on(with));
            String due = Probes.answers(i, made());
            check.same(state + ": " + what + ": what probe " + i + " sees behind it", Probes.answers(i, with), due);
        }
    }

    private void refuse(String what, String exception, Step call) {
        RelayDesk desk = made();
        check.same(state + ": " + what, Check.thrownBy(() -> call.on(desk)), exception);
        stayTheSame(what, call);
    }

    private RelayDesk made() {
        RelayDesk desk = new RelayDesk();
        before.on(desk);
        return desk;
    }
}
