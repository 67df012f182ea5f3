import java.util.stream.IntStream;

/** Types characters into a desk as signs and reads what it sends as characters. */
final class Teleprinter {
    private static final String FIGURES = "0123456789.,-/()?:'+=";
    private static final int TO_LETTERS = 28;
    private static final int TO_FIGURES = 29;

    private Teleprinter() {
    }

    static int indicator(String letters) {
        int number = 0;
        for (char c : letters.toCharArray()) {
            number = number * 26 + c - 'A';
        }
        return number;
    }

    /** The answer to the last sign; an earlier one that is not 0 is an error of the test. */
    static int type(RelayDesk desk, int channel, String characters) {
        int answer = 0;
        for (int s : signsOf(characters)) {
            if (answer != 0) {
                throw new AssertionError("an END inside of " + characters);
            }
            answer = desk.sign(channel, s);
        }
        return answer;
    }

    /** Types a text and the END behind it. */
    static int message(RelayDesk desk, int channel, String text) {
        return type(desk, channel, text + "NNNN\n");
    }

    static int[] signsOf(String characters) {
        StringBuilder signs = new StringBuilder();
        boolean inFigures = false;
        for (char c : characters.toCharArray()) {
            boolean isFigure = FIGURES.indexOf(c) >= 0;
            boolean isLetter = c >= 'A' && c <= 'Z';
            if ((isFigure || isLetter) && isFigure != inFigures) {
                signs.append((char) (isFigure ? TO_FIGURES : TO_LETTERS));
                inFigures = isFigure;
            }
            signs.append((char) signOf(c));
        }
        return signs.chars().toArray();
    }

    private static int signOf(char c) {
        if (c == ' ') {
            return 26;
        }
        if (c == '\n') {
            return 27;
        }
        return c >= 'A' && c <= 'Z' ? c - 'A' : FIGURES.indexOf(c);
    }

    /** What goes out up to its END; shorter if the desk has nothing (more) to send. */
    static String receive(RelayDesk desk, int channel) {
        StringBuilder text = new StringBuilder();
        boolean inFigures = false;
        for (int i = 0; i < 400 && !isWhole(text); i++) {
            int s = desk.send(channel);
            if (s == RelayDesk.NONE) {
                break;
            }
            if (s == TO_LETTERS || s == TO_FIGURES) {
                inFigures = s == TO_FIGURES;
            } else {
                text.append(s == 26 ? ' ' : s == 27 ? '\n' : inFigures ? FIGURES.charAt(s) : (char) ('A' + s));
            }
        }
        return text.toString();
    }

    private static boolean isWhole(StringBuilder text) {
        return text.length() >= 6 && text.substring(text.length() - 6).equals("\nNNNN\n");
    }

    /** The signs of all that a channel has to send. */
    static int[] signsSent(RelayDesk desk, int channel) {
        return IntStream.range(0, 400).map(i -> desk.send(channel)).takeWhile(s -> s != RelayDesk.NONE).toArray();
    }

    static void skip(RelayDesk desk, int channel, int signs) {
        for (int i = 0; i < signs; i++) {
            desk.send(channel);
        }
    }

    static void clerk(RelayDesk desk, int which, String text) {
        for (char c : text.toCharArray()) {
            desk.clerk(which, c);
        }
    }

    static String times(int n, String text) {
        return text.repeat(n);
    }
}
