/** A torn-tape relay centre; ../shared/DOC.md says what each call promises. */
public final class RelayDesk {
    public static final int NONE = -1;
    public static final int TAKEN = 1;
    public static final int IGNORED = 2;
    public static final int CASE = 3;
    public static final int FULL = 4;

    private static final int CHANNELS = 8;
    private static final int SIGNS = 32;
    private static final int LETTERS = 26;
    private static final int INDICATORS = 26 * 26 * 26 * 26;
    private static final int PRECEDENCES = 4;
    private static final int HIGHEST_NUMBER = 999;

    private static final int MOST_MESSAGES = 10;
    private static final int MOST_CASES = 6;
    private static final int MOST_ROUTES = 12;
    private static final int MOST_MEMBERS = 4;
    private static final int MOST_INDICATORS = 4;
    private static final int MOST_TEXT = 60;
    /** What goes out is a text with at most R, a blank, a LINE END and the five of the END more. */
    private static final int MOST_TAPE = MOST_TEXT + 8;
    private static final int MOST_AHEAD = 20;
    private static final int MOST_MISSING = 30;
    private static final int MOST_ASKED = 3;
    private static final int MOST_KEPT = 3;

    private static final int SOUND = 0;
    private static final int FAULT_NUMBER = 1;
    private static final int FAULT_LONG = 2;
    private static final int FAULT_PRECEDENCE = 3;
    private static final int FAULT_INDICATOR = 4;
    private static final int FAULT_ROUTE = 5;

    private static final String FIGURES = "0123456789.,-/()?:'+=";
    private static final int SIGN_BLANK = 26;
    private static final int SIGN_LINE_END = 27;
    private static final int SIGN_TO_LETTERS = 28;
    private static final int SIGN_TO_FIGURES = 29;
    private static final char NOTHING = 0;
    private static final char BLANK = ' ';
    private static final char LINE_END = 10;
    private static final char END_LETTER = 'N';
    private static final int END_LENGTH = 4;

    private final Channel[] channels = new Channel[CHANNELS];
    private final Message[] messages = new Message[MOST_MESSAGES];
    private final Case[] cases = new Case[MOST_CASES];
    private final Routes routes = new Routes();
    private final Header header = new Header();
    private int messageCount;
    private int caseCount;

    public RelayDesk() {
        for (int i = 0; i < CHANNELS; i++) {
            channels[i] = new Channel(i);
        }
        for (int i = 0; i < MOST_MESSAGES; i++) {
            messages[i] = new Message();
        }
        for (int i = 0; i < MOST_CASES; i++) {
            cases[i] = new Case();
        }
    }

    public int sign(int channel, int s) throws IllegalArgumentException {
        needWithin(channel, 0, CHANNELS - 1);
        needWithin(s, 0, SIGNS - 1);
        Channel line = channels[channel];
        if (!line.isOpen) {
            return NONE;
        }
        if (!line.intake.takesEnd(s)) {
            return 0;
        }
        int brought = handIn(line);
        line.intake.begin();
        return brought;
    }

    public int receipt(int channel) throws IllegalArgumentException {
        needWithin(channel, 0, CHANNELS - 1);
        return channels[channel].numbers.last;
    }

    public int askFor(int channel) throws IllegalArgumentException {
        needWithin(channel, 0, CHANNELS - 1);
        return channels[channel].numbers.firstMissing();
    }

    public void route(int indicator, int channel, int alternate) throws IllegalArgumentException, IllegalStateException {
        needWithin(indicator, 0, INDICATORS - 1);
        needWithin(channel, 0, CHANNELS - 1);
        needWithin(alternate, 0, CHANNELS - 1);
        int row = routes.rowOf(indicator);
        if (row != NONE && routes.rows[row].isGroup()) {
            throw new IllegalArgumentException();
        }
        if (row == NONE && routes.isFull()) {
            throw new IllegalStateException();
        }
        Route it = routes.rows[row == NONE ? routes.newRow(indicator) : row];
        it.channel = channel;
        it.alternate = alternate;
    }

    public int group(int indicator, int member) throws IllegalArgumentException, IllegalStateException {
        needWithin(indicator, 0, INDICATORS - 1);
        needWithin(member, 0, INDICATORS - 1);
        if (indicator == member || routes.leadsTo(member, indicator)) {
            throw new IllegalArgumentException();
        }
        int row = routes.rowOf(indicator);
        if (row != NONE && (!routes.rows[row].isGroup() || routes.rows[row].holds(member))) {
            throw new IllegalArgumentException();
        }
        if (row == NONE ? routes.isFull() : routes.rows[row].memberCount >= MOST_MEMBERS) {
            throw new IllegalStateException();
        }
        return routes.rows[row == NONE ? routes.newRow(indicator) : row].addMember(member);
    }

    public boolean open(int channel, boolean is) throws IllegalArgumentException {
        needWithin(channel, 0, CHANNELS - 1);
        Channel line = channels[channel];
        boolean was = line.isOpen;
        line.isOpen = is;
        if (!is) {
            line.loseWhatIsUnderWay();
            line.numbers.forgetMissing();
        }
        return was;
    }

    public int send(int channel) throws IllegalArgumentException {
        needWithin(channel, 0, CHANNELS - 1);
        Channel line = channels[channel];
        if (!line.isOpen) {
            return NONE;
        }
        if (line.outlet.isIdle() && !line.outlet.startsAsked()) {
            line.outlet.startEntry(firstWaiting(channel));
        }
        return line.outlet.nextSign();
    }

    public boolean rerun(int channel, int number) throws IllegalArgumentException, IllegalStateException {
        needWithin(channel, 0, CHANNELS - 1);
        needWithin(number, 1, HIGHEST_NUMBER);
        Outlet outlet = channels[channel].outlet;
        if (outlet.askedCount >= MOST_ASKED) {
            throw new IllegalStateException();
        }
        return outlet.asksAgain(number);
    }

    public int queued(int channel, int precedence) throws IllegalArgumentException {
        needWithin(channel, 0, CHANNELS - 1);
        needWithin(precedence, 1, PRECEDENCES);
        int found = 0;
        for (int i = 0; i < messageCount; i++) {
            if (messages[i].waitsOn(channel) && messages[i].precedence == precedence) {
                found++;
            }
        }
        return found;
    }

    public int trace(int message, int channel) throws IllegalArgumentException {
        needWithin(message, 1, messageCount);
        needWithin(channel, 0, CHANNELS - 1);
        int fate = messages[message - 1].fates[channel];
        return fate == Message.IS_BEING_SENT ? NONE : fate;
    }

    public int reason(int which) throws IllegalArgumentException {
        needWithin(which, 1, caseCount);
        return cases[which - 1].reason;
    }

    public void clerk(int which, char c) throws IllegalArgumentException, IllegalStateException {
        needWithin(which, 1, caseCount);
        if (Signs.signOf(c) == NONE) {
            throw new IllegalArgumentException();
        }
        Case it = cases[which - 1];
        if (it.isClosed() || it.text.length >= MOST_TEXT) {
            throw new IllegalStateException();
        }
        it.text.add(c);
    }

    public int resubmit(int which) throws IllegalArgumentException, IllegalStateException {
        needWithin(which, 1, caseCount);
        Case it = cases[which - 1];
        if (it.isClosed() || messageCount >= MOST_MESSAGES) {
            throw new IllegalStateException();
        }
        int fault = header.faultIn(it.text, false);
        if (fault == SOUND) {
            fault = fileIfAllLeadSomewhere(it.text);
        }
        it.text.clear();
        it.reason = fault;
        return fault;
    }

    public void cut() {
        for (int i = 0; i < CHANNELS; i++) {
            channels[i].loseWhatIsUnderWay();
        }
    }

    public int count(int what) {
        switch (what) {
            case 0:
                return messageCount;
            case 1:
                return caseCount;
            case 2:
                return casesNotClosed();
            default:
                return NONE;
        }
    }

    private static void needWithin(int value, int least, int most) {
        if (value < least || value > most) {
            throw new IllegalArgumentException();
        }
    }

    /** What the END on a channel brings. */
    private int handIn(Channel line) {
        Text text = line.intake.textBeforeEnd();
        int fault = header.faultIn(text, line.intake.isLong());
        if (fault == FAULT_NUMBER) {
            makeCase(fault);
            return CASE;
        }
        if (!line.numbers.accepts(header.number)) {
            return IGNORED;
        }
        if (messageCount >= MOST_MESSAGES) {
            return FULL;
        }
        line.numbers.take(header.number);
        if (fault != SOUND) {
            makeCase(fault);
            return CASE;
        }
        int rows = routes.rowsBehind(header);
        fileMessage(text, rows);
        if (Routes.leadNowhere(rows)) {
            makeCase(FAULT_ROUTE);
        }
        return TAKEN;
    }

    private int fileIfAllLeadSomewhere(Text text) {
        int rows = routes.rowsBehind(header);
        if (Routes.leadNowhere(rows)) {
            return FAULT_ROUTE;
        }
        fileMessage(text, rows);
        return SOUND;
    }

    private void makeCase(int reason) {
        if (caseCount < MOST_CASES) {
            cases[caseCount].reason = reason;
            caseCount++;
        }
    }

    private void fileMessage(Text text, int rows) {
        if (messageCount >= MOST_MESSAGES) {
            return;
        }
        Message message = messages[messageCount];
        messageCount++;
        message.fill(header, text);
        for (int i = 0; i < routes.rowCount; i++) {
            Route row = routes.rows[i];
            if (Routes.has(rows, i) && !row.isGroup()) {
                message.fates[channelOf(row)] = Message.WAITS;
            }
        }
    }

    private int channelOf(Route row) {
        if (!channels[row.channel].isOpen && channels[row.alternate].isOpen) {
            return row.alternate;
        }
        return row.channel;
    }

    /** The message whose turn it is on a channel, null without one. */
    private Message firstWaiting(int channel) {
        Message first = null;
        for (int i = 0; i < messageCount; i++) {
            Message it = messages[i];
            if (it.waitsOn(channel) && (first == null || it.precedence < first.precedence)) {
                first = it;
            }
        }
        return first;
    }

    private int casesNotClosed() {
        int found = 0;
        for (int i = 0; i < caseCount; i++) {
            if (!cases[i].isClosed()) {
                found++;
            }
        }
        return found;
    }

    /** The code of five bits. */
    private static final class Signs {
        /** NOTHING for a sign that is no character. */
        static char characterOf(int s, boolean inFigures) {
            if (s == SIGN_BLANK) {
                return BLANK;
            }
            if (s == SIGN_LINE_END) {
                return LINE_END;
            }
            if (s < 0 || s >= (inFigures ? FIGURES.length() : LETTERS)) {
                return NOTHING;
            }
            return inFigures ? FIGURES.charAt(s) : (char) ('A' + s);
        }

        /** NONE for what is none of the CHARACTERS. */
        static int signOf(char c) {
            if (c == BLANK) {
                return SIGN_BLANK;
            }
            if (c == LINE_END) {
                return SIGN_LINE_END;
            }
            return isLetter(c) ? c - 'A' : FIGURES.indexOf(c);
        }

        static boolean isLetter(char c) {
            return c >= 'A' && c <= 'Z';
        }

        static boolean isDigit(char c) {
            return c >= '0' && c <= '9';
        }

        static boolean isInBothShifts(char c) {
            return c == BLANK || c == LINE_END;
        }
    }

    /** Characters up to a limit; those beyond are not kept. */
    private static final class Text {
        private final char[] characters;
        private int length;

        Text(int most) {
            characters = new char[most];
        }

        void clear() {
            length = 0;
        }

        void add(char c) {
            if (length < characters.length) {
                characters[length] = c;
                length++;
            }
        }

        void addNumber(int number) {
            add((char) ('0' + number / 100 % 10));
            add((char) ('0' + number / 10 % 10));
            add((char) ('0' + number % 10));
        }

        void addIndicator(int indicator) {
            int unit = INDICATORS / LETTERS;
            for (int i = 0; i < 4; i++) {
                add((char) ('A' + indicator / unit % LETTERS));
                unit = Math.max(1, unit / LETTERS);
            }
        }

        void addFrom(Text other, int start) {
            for (int i = start; i < other.length; i++) {
                add(other.at(i));
            }
        }

        void shortenTo(int most) {
            length = Math.min(length, most);
        }

        char at(int index) {
            return index >= 0 && index < length ? characters[index] : NOTHING;
        }

        int firstLineEnd() {
            for (int i = 0; i < length; i++) {
                if (characters[i] == LINE_END) {
                    return i;
                }
            }
            return length;
        }
    }

    private static final class Channel {
        private boolean isOpen = true;
        private final Intake intake = new Intake();
        private final Numbers numbers = new Numbers();
        private final Outlet outlet;

        Channel(int channel) {
            outlet = new Outlet(channel);
        }

        void loseWhatIsUnderWay() {
            intake.begin();
            outlet.beginAnew();
        }
    }

    /** What a channel gathers. */
    private static final class Intake {
        /** Stands in lineNs for a line that can be no END any more. */
        private static final int OTHER_LINE = END_LENGTH + 1;

        private final Text text = new Text(MOST_TEXT);
        private boolean inFigures;
        /** Counted up to one beyond the limit: more says nothing more. */
        private int came;
        private int cameBeforeLine;
        private int lineNs;

        void begin() {
            text.clear();
            inFigures = false;
            came = 0;
            cameBeforeLine = 0;
            lineNs = 0;
        }

        boolean takesEnd(int s) {
            if (s == SIGN_TO_LETTERS || s == SIGN_TO_FIGURES) {
                inFigures = s == SIGN_TO_FIGURES;
                return false;
            }
            char c = Signs.characterOf(s, inFigures);
            if (c == LINE_END && lineNs == END_LENGTH) {
                return true;
            }
            if (c != NOTHING) {
                gather(c);
            }
            return false;
        }

        private void gather(char c) {
            text.add(c);
            came = Math.min(came + 1, MOST_TEXT + 1);
            if (c == LINE_END) {
                cameBeforeLine = came;
                lineNs = 0;
            } else {
                lineNs = c == END_LETTER && lineNs < END_LENGTH ? lineNs + 1 : OTHER_LINE;
            }
        }

        Text textBeforeEnd() {
            text.shortenTo(cameBeforeLine);
            return text;
        }

        boolean isLong() {
            return cameBeforeLine > MOST_TEXT;
        }
    }

    /** The numbers that a channel took and misses. */
    private static final class Numbers {
        private int last = HIGHEST_NUMBER;
        private final int[] missing = new int[MOST_MISSING];
        private int missingCount;

        boolean accepts(int number) {
            return isDue(number) || placeOf(number) != NONE;
        }

        /** One that was missing leaves LAST alone: else those behind it could be taken twice. */
        void take(int number) {
            if (isDue(number)) {
                missAllBefore(number);
                last = number;
            } else {
                dropMissing(placeOf(number));
            }
        }

        int firstMissing() {
            return missingCount > 0 ? missing[0] : 0;
        }

        void forgetMissing() {
            missingCount = 0;
        }

        private boolean isDue(int number) {
            int ahead = aheadOfLast(number);
            return ahead <= MOST_AHEAD && missingCount + ahead - 1 <= MOST_MISSING;
        }

        private int aheadOfLast(int number) {
            int ahead = number - last;
            return ahead > 0 ? ahead : ahead + HIGHEST_NUMBER;
        }

        private void missAllBefore(int number) {
            int between = aheadOfLast(number) - 1;
            int next = last;
            for (int i = 0; i < between && missingCount < MOST_MISSING; i++) {
                next = numberBehind(next);
                missing[missingCount] = next;
                missingCount++;
            }
        }

        private int placeOf(int number) {
            for (int i = 0; i < missingCount; i++) {
                if (missing[i] == number) {
                    return i;
                }
            }
            return NONE;
        }

        private void dropMissing(int place) {
            if (place < 0 || place >= missingCount) {
                return;
            }
            missingCount--;
            for (int i = place; i < missingCount; i++) {
                missing[i] = missing[i + 1];
            }
        }

        static int numberBehind(int number) {
            return number >= HIGHEST_NUMBER ? 1 : number + 1;
        }
    }

    /** Reads a text's header, word by word; one is used again for every text. */
    private static final class Header {
        private int number;
        private int precedence;
        private final int[] indicators = new int[MOST_INDICATORS];
        private int indicatorCount;
        private int end;
        private int wordStart;
        private int wordEnd;

        /** The first fault, or SOUND. */
        int faultIn(Text text, boolean isLong) {
            end = text.firstLineEnd();
            wordEnd = 0;
            if (!hasNextWord(text) || !isNumber(text)) {
                return FAULT_NUMBER;
            }
            if (isLong) {
                return FAULT_LONG;
            }
            boolean hasWord = hasNextWord(text);
            if (hasWord && wordLength() == 1 && text.at(wordStart) == 'R') {
                hasWord = hasNextWord(text);
            }
            if (!hasWord || !isPrecedence(text)) {
                return FAULT_PRECEDENCE;
            }
            return readsIndicators(text) ? SOUND : FAULT_INDICATOR;
        }

        int bodyStart() {
            return end + 1;
        }

        private boolean hasNextWord(Text text) {
            wordStart = wordEnd;
            while (wordStart < end && text.at(wordStart) == BLANK) {
                wordStart++;
            }
            wordEnd = wordStart;
            while (wordEnd < end && text.at(wordEnd) != BLANK) {
                wordEnd++;
            }
            return wordEnd > wordStart;
        }

        private int wordLength() {
            return wordEnd - wordStart;
        }

        private boolean isNumber(Text text) {
            number = 0;
            if (wordLength() != 3) {
                return false;
            }
            for (int i = wordStart; i < wordEnd; i++) {
                if (!Signs.isDigit(text.at(i))) {
                    return false;
                }
                number = number * 10 + text.at(i) - '0';
            }
            return number > 0;
        }

        private boolean isPrecedence(Text text) {
            precedence = text.at(wordStart) - '0';
            return wordLength() == 1 && precedence >= 1 && precedence <= PRECEDENCES;
        }

        private boolean readsIndicators(Text text) {
            indicatorCount = 0;
            boolean hasWord = hasNextWord(text);
            while (hasWord && indicatorCount < MOST_INDICATORS) {
                if (!isIndicator(text)) {
                    return false;
                }
                indicators[indicatorCount] = indicatorOf(text);
                indicatorCount++;
                hasWord = hasNextWord(text);
            }
            return indicatorCount > 0 && !hasWord;
        }

        private boolean isIndicator(Text text) {
            for (int i = wordStart; i < wordEnd; i++) {
                if (!Signs.isLetter(text.at(i))) {
                    return false;
                }
            }
            return wordLength() == 4;
        }

        private int indicatorOf(Text text) {
            int indicator = 0;
            for (int i = wordStart; i < wordEnd; i++) {
                indicator = indicator * LETTERS + text.at(i) - 'A';
            }
            return indicator;
        }
    }

    private static final class Message {
        private static final int WAITS = -1;
        private static final int IS_BEING_SENT = -2;

        private int precedence;
        private final int[] indicators = new int[MOST_INDICATORS];
        private int indicatorCount;
        private final Text body = new Text(MOST_TEXT);
        /** For each channel WAITS, IS_BEING_SENT, the number with which it was SENT, or 0. */
        private final int[] fates = new int[CHANNELS];

        void fill(Header header, Text text) {
            precedence = header.precedence;
            indicatorCount = Math.min(header.indicatorCount, MOST_INDICATORS);
            for (int i = 0; i < indicatorCount; i++) {
                indicators[i] = header.indicators[i];
            }
            body.addFrom(text, header.bodyStart());
        }

        boolean waitsOn(int channel) {
            return fates[channel] == WAITS;
        }

        void writeOn(Text tape, int number, boolean isAgain) {
            tape.clear();
            tape.addNumber(number);
            tape.add(BLANK);
            if (isAgain) {
                tape.add('R');
                tape.add(BLANK);
            }
            tape.add((char) ('0' + precedence));
            for (int i = 0; i < indicatorCount; i++) {
                tape.add(BLANK);
                tape.addIndicator(indicators[i]);
            }
            tape.add(LINE_END);
            tape.addFrom(body, 0);
            if (body.length > 0 && body.at(body.length - 1) != LINE_END) {
                tape.add(LINE_END);
            }
            for (int i = 0; i < END_LENGTH; i++) {
                tape.add(END_LETTER);
            }
            tape.add(LINE_END);
        }
    }

    /** A case; its reason is SOUND when it is closed. */
    private static final class Case {
        private int reason;
        private final Text text = new Text(MOST_TEXT);

        boolean isClosed() {
            return reason == SOUND;
        }
    }

    /** An indicator with a channel and an alternate, or with members. */
    private static final class Route {
        private int indicator;
        private int channel;
        private int alternate;
        private final int[] members = new int[MOST_MEMBERS];
        private int memberCount;

        boolean isGroup() {
            return memberCount > 0;
        }

        boolean holds(int member) {
            for (int i = 0; i < memberCount; i++) {
                if (members[i] == member) {
                    return true;
                }
            }
            return false;
        }

        int addMember(int member) {
            if (memberCount < MOST_MEMBERS) {
                members[memberCount] = member;
                memberCount++;
            }
            return memberCount;
        }
    }

    /** All routes and groups; a set of them is an int with a bit for each row. */
    private static final class Routes {
        /** The bit in a set for an indicator that has no row. */
        private static final int NOWHERE = 1 << MOST_ROUTES;

        private final Route[] rows = new Route[MOST_ROUTES];
        private int rowCount;

        Routes() {
            for (int i = 0; i < MOST_ROUTES; i++) {
                rows[i] = new Route();
            }
        }

        static boolean has(int set, int row) {
            return (set >> row & 1) != 0;
        }

        static boolean leadNowhere(int set) {
            return (set & NOWHERE) != 0;
        }

        boolean isFull() {
            return rowCount >= MOST_ROUTES;
        }

        int rowOf(int indicator) {
            for (int i = 0; i < rowCount; i++) {
                if (rows[i].indicator == indicator) {
                    return i;
                }
            }
            return NONE;
        }

        /** Asked only while it is not full. */
        int newRow(int indicator) {
            int row = Math.min(rowCount, MOST_ROUTES - 1);
            rows[row].indicator = indicator;
            rowCount = row + 1;
            return row;
        }

        int rowsBehind(Header header) {
            int set = 0;
            for (int i = 0; i < header.indicatorCount; i++) {
                set |= bitOf(header.indicators[i]);
            }
            return withMembers(set);
        }

        boolean leadsTo(int from, int indicator) {
            int set = withMembers(bitOf(from));
            for (int i = 0; i < rowCount; i++) {
                if (has(set, i) && rows[i].holds(indicator)) {
                    return true;
                }
            }
            return false;
        }

        /** No chain of groups is longer than there are rows, so that many rounds reach every depth. */
        private int withMembers(int set) {
            int all = set;
            for (int round = 0; round < MOST_ROUTES; round++) {
                all |= membersOf(all);
            }
            return all;
        }

        private int membersOf(int set) {
            int members = 0;
            for (int i = 0; i < rowCount; i++) {
                for (int k = 0; has(set, i) && k < rows[i].memberCount; k++) {
                    members |= bitOf(rows[i].members[k]);
                }
            }
            return members;
        }

        private int bitOf(int indicator) {
            int row = rowOf(indicator);
            return row == NONE ? NOWHERE : 1 << row;
        }
    }

    /** What a channel sends. */
    private static final class Outlet {
        private final int channel;
        private final Text tape = new Text(MOST_TAPE);
        private int position;
        private boolean inFigures;
        /** What is being sent, null without one. */
        private Message current;
        private int currentNumber;
        private boolean isAgain;
        private int lastNumber;
        private final Message[] asked = new Message[MOST_ASKED];
        private int askedCount;
        /** The latest that were SENT, the latest one first. */
        private final Message[] kept = new Message[MOST_KEPT];

        Outlet(int channel) {
            this.channel = channel;
        }

        boolean isIdle() {
            return current == null;
        }

        void beginAnew() {
            position = 0;
            inFigures = false;
        }

        boolean asksAgain(int number) {
            for (int i = 0; i < MOST_KEPT; i++) {
                Message it = kept[i];
                if (it != null && it.fates[channel] == number && askedCount < MOST_ASKED) {
                    asked[askedCount] = it;
                    askedCount++;
                    return true;
                }
            }
            return false;
        }

        boolean startsAsked() {
            Message first = asked[0];
            if (askedCount == 0 || first == null) {
                return false;
            }
            askedCount--;
            for (int i = 0; i < askedCount; i++) {
                asked[i] = asked[i + 1];
            }
            start(first, first.fates[channel], true);
            return true;
        }

        void startEntry(Message message) {
            if (message != null) {
                lastNumber = Numbers.numberBehind(lastNumber);
                message.fates[channel] = Message.IS_BEING_SENT;
                start(message, lastNumber, false);
            }
        }

        private void start(Message message, int number, boolean again) {
            current = message;
            currentNumber = number;
            isAgain = again;
            message.writeOn(tape, number, again);
            beginAnew();
        }

        int nextSign() {
            if (current == null) {
                return NONE;
            }
            char c = tape.at(position);
            boolean isLetter = Signs.isLetter(c);
            if (!Signs.isInBothShifts(c) && isLetter == inFigures) {
                inFigures = !isLetter;
                return inFigures ? SIGN_TO_FIGURES : SIGN_TO_LETTERS;
            }
            position++;
            if (position >= tape.length) {
                finish();
            }
            return Signs.signOf(c);
        }

        private void finish() {
            if (!isAgain && current != null) {
                current.fates[channel] = currentNumber;
                for (int i = MOST_KEPT - 1; i > 0; i--) {
                    kept[i] = kept[i - 1];
                }
                kept[0] = current;
            }
            current = null;
        }
    }
}
