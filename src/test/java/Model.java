import java.util.ArrayDeque;
import java.util.ArrayList;
import java.util.Arrays;
import java.util.LinkedHashMap;
import java.util.List;
import java.util.Map;
import java.util.TreeSet;
import java.util.regex.Matcher;
import java.util.regex.Pattern;

/** The document written a second time, with texts, lists and patterns, to compare the program with. */
final class Model {
    private static final String LETTERS = "ABCDEFGHIJKLMNOPQRSTUVWXYZ";
    private static final String FIGURES = "0123456789.,-/()?:'+=";
    private static final Pattern NUMBER = Pattern.compile(" *([0-9]{3})(?: .*)?");
    private static final Pattern PRECEDENCE = Pattern.compile(" *[0-9]{3} +(?:R +)?([1-4])(?: .*)?");
    private static final Pattern WHOLE = Pattern.compile(" *[0-9]{3} +(?:R +)?[1-4]((?: +[A-Z]{4}){1,4}) *");

    private static final class Line {
        boolean open = true;
        boolean figures;
        String gathered = "";
        int last = 999;
        final List<Integer> missing = new ArrayList<>();
        final List<Item> entries = new ArrayList<>();
        final List<Item> sent = new ArrayList<>();
        final ArrayDeque<Item> asked = new ArrayDeque<>();
        Item current;
        boolean currentIsAgain;
        final ArrayDeque<Integer> signs = new ArrayDeque<>();
        int numbersGiven;
    }

    private static final class Item {
        int message;
        int precedence;
        String indicators;
        String body;
        int number;
        boolean isSent;
    }

    private static final class Trouble {
        int reason;
        String text = "";
    }

    private final Line[] lines = new Line[8];
    private final Map<String, int[]> routes = new LinkedHashMap<>();
    private final Map<String, List<String>> groups = new LinkedHashMap<>();
    private final List<Trouble> troubles = new ArrayList<>();
    private final List<Map<Integer, Item>> messages = new ArrayList<>();

    Model() {
        for (int i = 0; i < 8; i++) {
            lines[i] = new Line();
        }
    }

    private static void argument(boolean isRight) {
        if (!isRight) {
            throw new IllegalArgumentException();
        }
    }

    private static void state(boolean isRight) {
        if (!isRight) {
            throw new IllegalStateException();
        }
    }

    private Line line(int channel) {
        argument(channel >= 0 && channel <= 7);
        return lines[channel];
    }

    private static String letters(int indicator) {
        argument(indicator >= 0 && indicator < 456976);
        return "" + LETTERS.charAt(indicator / 17576) + LETTERS.charAt(indicator / 676 % 26)
            + LETTERS.charAt(indicator / 26 % 26) + LETTERS.charAt(indicator % 26);
    }

    int sign(int channel, int s) {
        Line line = line(channel);
        argument(s >= 0 && s <= 31);
        if (!line.open) {
            return -1;
        }
        if (s == 28 || s == 29) {
            line.figures = s == 29;
            return 0;
        }
        String code = line.figures ? FIGURES + "-----".replace('-', '\0') + " \n" : LETTERS + " \n";
        if (s >= code.length() || code.charAt(s) == '\0') {
            return 0;
        }
        line.gathered += code.charAt(s);
        if (!line.gathered.equals("NNNN\n") && !line.gathered.endsWith("\nNNNN\n")) {
            return 0;
        }
        String text = line.gathered.substring(0, line.gathered.length() - 5);
        line.gathered = "";
        line.figures = false;
        return end(line, text);
    }

    private int end(Line line, String whole) {
        String text = whole.substring(0, Math.min(60, whole.length()));
        int fault = fault(text, whole.length() > 60);
        if (fault == 1) {
            trouble(fault);
            return 3;
        }
        int number = Integer.parseInt(header(text).trim().substring(0, 3));
        int steps = (number - line.last + 998) % 999 + 1;
        boolean isDue = steps <= 20 && line.missing.size() + steps - 1 <= 30;
        if (!isDue && !line.missing.contains(number)) {
            return 2;
        }
        if (messages.size() == 10) {
            return 4;
        }
        if (isDue) {
            for (int i = 1; i < steps; i++) {
                line.missing.add((line.last + i - 1) % 999 + 1);
            }
            line.last = number;
        } else {
            line.missing.remove((Integer) number);
        }
        if (fault != 0) {
            trouble(fault);
            return 3;
        }
        if (!deliver(text)) {
            trouble(5);
        }
        return 1;
    }

    private static String header(String text) {
        return text.indexOf('\n') < 0 ? text : text.substring(0, text.indexOf('\n'));
    }

    private static String body(String text) {
        return text.indexOf('\n') < 0 ? "" : text.substring(text.indexOf('\n') + 1);
    }

    private static int fault(String text, boolean isLong) {
        String header = header(text);
        Matcher number = NUMBER.matcher(header);
        if (!number.matches() || number.group(1).equals("000")) {
            return 1;
        }
        if (isLong) {
            return 2;
        }
        if (!PRECEDENCE.matcher(header).matches()) {
            return 3;
        }
        return WHOLE.matcher(header).matches() ? 0 : 4;
    }

    private void trouble(int reason) {
        if (troubles.size() < 6) {
            Trouble it = new Trouble();
            it.reason = reason;
            troubles.add(it);
        }
    }

    private static String[] indicators(String text) {
        Matcher whole = WHOLE.matcher(header(text));
        state(whole.matches());
        return whole.group(1).trim().split(" +");
    }

    private boolean deliver(String text) {
        TreeSet<Integer> channels = new TreeSet<>();
        boolean isComplete = true;
        for (String indicator : indicators(text)) {
            isComplete &= reach(indicator, channels);
        }
        Matcher precedence = PRECEDENCE.matcher(header(text));
        state(precedence.matches());
        Map<Integer, Item> items = new LinkedHashMap<>();
        messages.add(items);
        for (int channel : channels) {
            Item item = new Item();
            item.message = messages.size();
            item.precedence = Integer.parseInt(precedence.group(1));
            item.indicators = String.join(" ", indicators(text));
            item.body = body(text);
            items.put(channel, item);
            lines[channel].entries.add(item);
        }
        return isComplete;
    }

    private boolean reach(String indicator, TreeSet<Integer> channels) {
        if (routes.containsKey(indicator)) {
            int[] route = routes.get(indicator);
            channels.add(lines[route[0]].open || !lines[route[1]].open ? route[0] : route[1]);
            return true;
        }
        boolean isComplete = groups.containsKey(indicator);
        for (String member : groups.getOrDefault(indicator, List.of())) {
            isComplete &= reach(member, channels);
        }
        return isComplete;
    }

    int receipt(int channel) {
        return line(channel).last;
    }

    int askFor(int channel) {
        Line line = line(channel);
        return line.missing.isEmpty() ? 0 : line.missing.get(0);
    }

    void route(int indicator, int channel, int alternate) {
        String name = letters(indicator);
        line(channel);
        line(alternate);
        argument(!groups.containsKey(name));
        state(routes.containsKey(name) || routes.size() + groups.size() < 12);
        routes.put(name, new int[] {channel, alternate});
    }

    int group(int indicator, int member) {
        String name = letters(indicator);
        String other = letters(member);
        List<String> members = groups.getOrDefault(name, new ArrayList<>());
        argument(!routes.containsKey(name) && !members.contains(other) && !leads(other, name));
        state(members.size() < 4 && (groups.containsKey(name) || routes.size() + groups.size() < 12));
        members.add(other);
        groups.put(name, members);
        return members.size();
    }

    private boolean leads(String from, String to) {
        boolean does = from.equals(to);
        for (String member : groups.getOrDefault(from, List.of())) {
            does |= leads(member, to);
        }
        return does;
    }

    boolean open(int channel, boolean is) {
        Line line = line(channel);
        boolean was = line.open;
        line.open = is;
        if (!is) {
            lose(line);
            line.missing.clear();
        }
        return was;
    }

    void cut() {
        for (Line line : lines) {
            lose(line);
        }
    }

    private static void lose(Line line) {
        line.gathered = "";
        line.figures = false;
        line.signs.clear();
        if (line.current != null) {
            write(line);
        }
    }

    int send(int channel) {
        Line line = line(channel);
        if (!line.open || line.current == null && !begins(line)) {
            return -1;
        }
        int s = line.signs.remove();
        if (line.signs.isEmpty()) {
            if (!line.currentIsAgain) {
                line.current.isSent = true;
                line.sent.add(line.current);
            }
            line.current = null;
        }
        return s;
    }

    private static boolean begins(Line line) {
        line.currentIsAgain = !line.asked.isEmpty();
        if (line.currentIsAgain) {
            line.current = line.asked.remove();
        } else if (!line.entries.isEmpty()) {
            line.entries.sort((a, b) -> a.precedence != b.precedence ? a.precedence - b.precedence : a.message - b.message);
            line.current = line.entries.remove(0);
            line.current.number = ++line.numbersGiven;
        } else {
            return false;
        }
        write(line);
        return true;
    }

    private static void write(Line line) {
        Item item = line.current;
        String body = item.body.isEmpty() || item.body.endsWith("\n") ? item.body : item.body + "\n";
        String text = String.format("%03d %s%d %s%n%sNNNN%n", item.number, line.currentIsAgain ? "R " : "",
            item.precedence, item.indicators, body).replace(System.lineSeparator(), "\n");
        for (int s : Teleprinter.signsOf(text)) {
            line.signs.add(s);
        }
    }

    boolean rerun(int channel, int number) {
        Line line = line(channel);
        argument(number >= 1 && number <= 999);
        state(line.asked.size() < 3);
        for (Item item : line.sent.subList(Math.max(0, line.sent.size() - 3), line.sent.size())) {
            if (item.number == number) {
                line.asked.add(item);
                return true;
            }
        }
        return false;
    }

    int queued(int channel, int precedence) {
        Line line = line(channel);
        argument(precedence >= 1 && precedence <= 4);
        return (int) line.entries.stream().filter(item -> item.precedence == precedence).count();
    }

    int trace(int message, int channel) {
        argument(message >= 1 && message <= messages.size());
        line(channel);
        Item item = messages.get(message - 1).get(channel);
        return item == null ? 0 : item.isSent ? item.number : -1;
    }

    private Trouble trouble(int which, boolean isKnown) {
        argument(isKnown && which >= 1 && which <= troubles.size());
        return troubles.get(which - 1);
    }

    int reason(int which) {
        return trouble(which, true).reason;
    }

    void clerk(int which, char c) {
        Trouble it = trouble(which, (LETTERS + FIGURES + " \n").indexOf(c) >= 0);
        state(it.reason != 0 && it.text.length() < 60);
        it.text += c;
    }

    int resubmit(int which) {
        Trouble it = trouble(which, true);
        state(it.reason != 0 && messages.size() < 10);
        String text = it.text;
        it.text = "";
        it.reason = fault(text, false);
        if (it.reason == 0 && !Arrays.stream(indicators(text)).allMatch(name -> reach(name, new TreeSet<>()))) {
            it.reason = 5;
        }
        if (it.reason == 0) {
            deliver(text);
        }
        return it.reason;
    }

    int count(int what) {
        int[] counts = {messages.size(), troubles.size(), (int) troubles.stream().filter(it -> it.reason != 0).count()};
        return what >= 0 && what < 3 ? counts[what] : -1;
    }
}
