import java.util.NoSuchElementException;

/** A store of telegrams that are carved into roots, as ../shared/DOC.md promises it. */
public final class TurnipPages {
    private static final int MESSAGE_LIMIT = 40;
    private static final int BUFFER_LIMIT = 60;
    private static final int ROOT_LIMIT = 4;
    private static final int PAGE_LIMIT = 8;
    private static final int PAGE_LENGTH = 12;
    private static final int UNDO_LIMIT = 8;
    private static final int LONGEST_RUN = 9;
    private static final int SHORTEST_COUNTED_RUN = 3;
    private static final int MOST_DAMPNESS = 5;
    private static final int MOST_PRIORITY = 9;
    private static final int MOST_DAYS = 20;
    private static final int ROTTEN = 20;
    private static final int CHECKSUM_DIVISOR = 97;
    private static final char FIRST_CHARACTER = 32;
    private static final char LAST_CHARACTER = 126;
    private static final char NO_CHARACTER = 0;

    // Each telegram has a page at least, so there are never more telegrams than pages.
    private static final int TELEGRAM_LIMIT = ROOT_LIMIT * PAGE_LIMIT;
    private static final int CODE_LIMIT = PAGE_LIMIT * PAGE_LENGTH;
    // The densest unit has two characters and stands for nine.
    private static final int TEXT_LIMIT = CODE_LIMIT / 2 * LONGEST_RUN;
    // A text that is carved anew can have a longer code than the one it was decoded from:
    // 8\13\1 comes back as 9\1\1\1. No character needs more than two.
    private static final int RECODED_LIMIT = TEXT_LIMIT * 2;
    // The shortest command and its semicolon have six characters.
    private static final int COMMAND_LIMIT = (BUFFER_LIMIT + 1) / 6;

    private static final int LIMIT_REACHED = 1;
    private static final int MESSAGE_EMPTY = 2;
    private static final int PAGE_ROTTEN = 3;
    private static final int VALUE_PRESENT = 4;
    private static final int CODE_INVALID = 5;
    private static final int CHECKSUMS_DIFFER = 6;
    private static final int COMMAND_FAILED = 7;
    private static final int OTHER_EXCEPTION = 8;

    // An outcome is the answer of a call or, below 0, why the call is refused: the denial with its
    // number negated, or one of these three, which stand for exceptions that are no denials.
    private static final int NO_TELEGRAM = -11;
    private static final int NO_INDEX = -12;
    private static final int BAD_ARGUMENT = -13;

    private static final int NONE = -1;

    private static final int ROOT = 0;
    private static final int DRY = 1;
    private static final int AGE = 2;
    private static final int RECARVE = 3;
    private static final int MOVE = 4;
    private static final int DROP = 5;
    private static final int WORD_COUNT = 6;

    private final Text message = new Text(MESSAGE_LIMIT);
    private final Text buffer = new Text(BUFFER_LIMIT);
    private final Text line = new Text(TEXT_LIMIT);
    private final Carver carver = new Carver();
    private final Store store = carver.store;
    private final Store snapshot = new Store();
    private final History history = new History();
    private final Commands commands = new Commands();
    private final Denial denial = new Denial();
    private boolean snapshotSaved = false;
    private int keptFault = NONE;

    public TurnipPages() {
    }

    // ---- the message

    public int type(char character) throws IllegalArgumentException, IllegalStateException {
        if (!isTypeable(character)) {
            throw new IllegalArgumentException();
        }
        if (message.isFull()) {
            throw new IllegalStateException();
        }
        message.add(character);
        return message.length;
    }

    public int clearMessage() {
        int before = message.length;
        message.clear();
        return before;
    }

    public int encodedLength() {
        Code.fold(message, carver.recoded);
        return carver.recoded.length;
    }

    public int encodedLengthByRuns() {
        return Code.foldedLength(message);
    }

    public int encode() {
        Code.fold(message, line);
        return line.length;
    }

    public int decode() throws IllegalArgumentException {
        int fault = Code.faultIn(message);
        if (fault != NONE) {
            keptFault = fault;
            throw new IllegalArgumentException();
        }
        Code.unfold(message, line);
        return line.length;
    }

    public int messageChecksum() {
        return Code.sumOf(message);
    }

    // ---- roots

    public int addRoot(int dampness) throws IllegalArgumentException, UnsupportedOperationException {
        history.prepare(store);
        return settle(carver.plantRoot(dampness));
    }

    public int dry(int root) throws IndexOutOfBoundsException, UnsupportedOperationException {
        history.prepare(store);
        return settle(carver.dryRoot(root));
    }

    public int rootCount() {
        return store.rootCount;
    }

    public int dampness(int root) throws IndexOutOfBoundsException {
        requireRoot(root);
        return store.dampnessAt(root);
    }

    public int pagesIn(int root) throws IndexOutOfBoundsException {
        requireRoot(root);
        return store.countPagesIn(root);
    }

    public int dampestRoot() throws NoSuchElementException {
        int root = store.findDampestRoot();
        if (root == NONE) {
            throw new NoSuchElementException();
        }
        return root;
    }

    // ---- telegrams

    public int carve(int root, int priority)
            throws IndexOutOfBoundsException, IllegalArgumentException, UnsupportedOperationException {
        history.prepare(store);
        int number = settle(carver.carveText(root, priority, message));
        message.clear();
        return number;
    }

    public char damage(int telegram, int index, char character)
            throws NoSuchElementException, IndexOutOfBoundsException, IllegalArgumentException,
            UnsupportedOperationException {
        history.prepare(store);
        return (char) settle(carver.damageCode(telegram, index, character));
    }

    public int recarve(int telegram) throws NoSuchElementException, UnsupportedOperationException {
        history.prepare(store);
        return settle(carver.carveAnew(telegram));
    }

    public int move(int telegram, int root)
            throws NoSuchElementException, IndexOutOfBoundsException, UnsupportedOperationException {
        history.prepare(store);
        return settle(carver.moveTelegram(telegram, root));
    }

    public int drop(int telegram) throws NoSuchElementException {
        history.prepare(store);
        return settle(carver.dropTelegram(telegram));
    }

    public int read(int telegram) throws NoSuchElementException, UnsupportedOperationException {
        refuse(carver.readTelegram(telegram));
        line.copyFrom(carver.decoded);
        return line.length;
    }

    public int telegramCount() {
        return store.telegramCount;
    }

    public int telegramAt(int position) throws IndexOutOfBoundsException {
        Telegram found = store.telegramIn(position);
        if (found == null) {
            throw new IndexOutOfBoundsException();
        }
        return found.number;
    }

    public int telegramByPriority(int rank) throws NoSuchElementException {
        return requireNumber(store.findByPriority(rank));
    }

    public int telegramByRot(int rank) throws NoSuchElementException {
        return requireNumber(store.findByRot(rank));
    }

    public int rootOf(int telegram) throws NoSuchElementException {
        return requireTelegram(telegram).root;
    }

    public int checksumOf(int telegram) throws NoSuchElementException {
        return requireTelegram(telegram).checksum;
    }

    public int codeLength(int telegram) throws NoSuchElementException {
        return requireTelegram(telegram).code.length;
    }

    public char codeCharacter(int telegram, int index) throws NoSuchElementException, IndexOutOfBoundsException {
        Text code = requireTelegram(telegram).code;
        if (!code.has(index)) {
            throw new IndexOutOfBoundsException();
        }
        return code.at(index);
    }

    public int decodedLength(int telegram) throws NoSuchElementException {
        Code.unfold(requireValidCode(telegram), carver.decoded);
        return carver.decoded.length;
    }

    public int decodedLengthByUnits(int telegram) throws NoSuchElementException {
        return Code.unfoldedLength(requireValidCode(telegram));
    }

    public boolean isReadable(int telegram) throws NoSuchElementException {
        int outcome = carver.readTelegram(telegram);
        if (outcome == NO_TELEGRAM) {
            throw new NoSuchElementException();
        }
        return outcome >= 0;
    }

    // ---- pages, days

    public int age(int days) throws IllegalArgumentException {
        history.prepare(store);
        return settle(carver.passDays(days));
    }

    public int pageCount(int telegram) throws NoSuchElementException {
        return requireTelegram(telegram).pages;
    }

    public int rotOf(int telegram, int page) throws NoSuchElementException, IndexOutOfBoundsException {
        Telegram found = requireTelegram(telegram);
        if (!found.hasPage(page)) {
            throw new IndexOutOfBoundsException();
        }
        return found.rotAt(page);
    }

    public int daysUntilRotten(int telegram) throws NoSuchElementException {
        int days = store.countDaysUntilRotten(requireTelegram(telegram));
        if (days == NONE) {
            throw new NoSuchElementException();
        }
        return days;
    }

    public int rottenPages() {
        return store.countRottenPages();
    }

    // ---- statistics

    public int day() {
        return store.day;
    }

    public int carvedCharacters() {
        return store.carvedCharacters;
    }

    public double meanCodeLength() throws ArithmeticException {
        if (store.telegramCount == 0) {
            throw new ArithmeticException();
        }
        return (double) store.sumCodeLengths() / (double) store.telegramCount;
    }

    public float rottenShare() throws ArithmeticException {
        int pages = store.countPages();
        if (pages == 0) {
            throw new ArithmeticException();
        }
        return (float) store.countRottenPages() / (float) pages;
    }

    // ---- commands and output lines

    public int feed(char character) throws IllegalStateException {
        if (buffer.isFull()) {
            throw new IllegalStateException();
        }
        buffer.add(character);
        return buffer.length;
    }

    public int execute() throws IllegalArgumentException, UnsupportedOperationException {
        int fault = commands.parse(buffer);
        buffer.clear();
        if (fault != NONE) {
            keptFault = fault;
            throw new IllegalArgumentException();
        }
        history.prepare(store);
        for (int i = 0; i < commands.count; i++) {
            int outcome = carver.carryOut(commands.kindOf(i), commands.firstOf(i), commands.secondOf(i));
            if (outcome < 0) {
                store.copyFrom(history.spare());
                denial.note(COMMAND_FAILED, i, causeOf(outcome));
                throw new UnsupportedOperationException();
            }
        }
        history.keep();
        return commands.count;
    }

    public int faultPosition() throws NoSuchElementException {
        if (keptFault == NONE) {
            throw new NoSuchElementException();
        }
        return keptFault;
    }

    public int writeTelegram(int telegram) throws NoSuchElementException {
        requireTelegram(telegram).writeTo(line);
        return line.length;
    }

    public char lineCharacter(int index) throws IndexOutOfBoundsException {
        if (!line.has(index)) {
            throw new IndexOutOfBoundsException();
        }
        return line.at(index);
    }

    // ---- the latest denial

    public int denial() throws NoSuchElementException {
        requireDenial();
        return denial.number;
    }

    public int denialDetail() throws NoSuchElementException {
        requireDenial();
        return denial.detail;
    }

    public int denialCause() throws NoSuchElementException {
        if (denial.cause == NONE) {
            throw new NoSuchElementException();
        }
        return denial.cause;
    }

    // ---- undo and snapshots

    public int undo() throws IllegalStateException {
        if (history.count == 0) {
            throw new IllegalStateException();
        }
        history.takeBack(store);
        return history.count;
    }

    public int undoCount() {
        return history.count;
    }

    public int saveSnapshot() {
        snapshot.copyFrom(store);
        snapshotSaved = true;
        return store.telegramCount;
    }

    public int restoreSnapshot() throws IllegalStateException {
        if (!snapshotSaved) {
            throw new IllegalStateException();
        }
        store.copyFrom(snapshot);
        history.forget();
        return store.telegramCount;
    }

    // ---- what the calls share

    /** Ends a change for which the history was prepared. */
    private int settle(int outcome) {
        refuse(outcome);
        history.keep();
        return outcome;
    }

    private void refuse(int outcome) {
        if (outcome == NO_TELEGRAM) {
            throw new NoSuchElementException();
        }
        if (outcome == NO_INDEX) {
            throw new IndexOutOfBoundsException();
        }
        if (outcome == BAD_ARGUMENT) {
            throw new IllegalArgumentException();
        }
        if (outcome < 0) {
            denial.note(-outcome, carver.detail, NONE);
            throw new UnsupportedOperationException();
        }
    }

    private void requireRoot(int root) {
        if (!store.hasRoot(root)) {
            throw new IndexOutOfBoundsException();
        }
    }

    private void requireDenial() {
        if (denial.number == NONE) {
            throw new NoSuchElementException();
        }
    }

    private Telegram requireTelegram(int number) {
        Telegram found = store.find(number);
        if (found == null) {
            throw new NoSuchElementException();
        }
        return found;
    }

    private Text requireValidCode(int number) {
        Text code = requireTelegram(number).code;
        if (Code.faultIn(code) != NONE) {
            throw new NoSuchElementException();
        }
        return code;
    }

    private static int requireNumber(int number) {
        if (number == NONE) {
            throw new NoSuchElementException();
        }
        return number;
    }

    private static int causeOf(int outcome) {
        boolean exceptionIsNoDenial = outcome == NO_TELEGRAM || outcome == NO_INDEX || outcome == BAD_ARGUMENT;
        return exceptionIsNoDenial ? OTHER_EXCEPTION : -outcome;
    }

    private static boolean isTypeable(char character) {
        return character >= FIRST_CHARACTER && character <= LAST_CHARACTER;
    }

    private static boolean isDigit(char character) {
        return character >= '0' && character <= '9';
    }

    /** A row of characters that is made once and used again, and takes no more than its limit. */
    private static final class Text {
        private final char[] characters;
        int length = 0;

        Text(int limit) {
            characters = new char[Math.max(limit, 0)];
        }

        void clear() {
            length = 0;
        }

        boolean isFull() {
            return length >= characters.length;
        }

        boolean has(int index) {
            return index >= 0 && index < length && index < characters.length;
        }

        // Past the end stands a character that no command has, so that a parser need not ask for the end.
        char at(int index) {
            return has(index) ? characters[index] : NO_CHARACTER;
        }

        void put(int index, char character) {
            if (has(index)) {
                characters[index] = character;
            }
        }

        void add(char character) {
            if (!isFull()) {
                characters[length] = character;
                length++;
            }
        }

        void addNumber(int number) {
            for (int unit = 1000000000; unit > 0; unit /= 10) {
                if (number >= unit || unit == 1) {
                    add((char) ('0' + number / unit % 10));
                }
            }
        }

        void copyFrom(Text other) {
            length = Math.min(other.length, Math.min(other.characters.length, characters.length));
            System.arraycopy(other.characters, 0, characters, 0, length);
        }
    }

    /** How texts are folded into codes and unfolded again. */
    private static final class Code {
        private Code() {
        }

        static void fold(Text text, Text code) {
            code.clear();
            int run = 0;
            for (int i = 0; i < text.length; i++) {
                run++;
                if (endsRun(text, i, run)) {
                    writeRun(text.at(i), run, code);
                    run = 0;
                }
            }
        }

        static int foldedLength(Text text) {
            int sum = 0;
            int run = 0;
            for (int i = 0; i < text.length; i++) {
                run++;
                if (endsRun(text, i, run)) {
                    int single = needsEscape(text.at(i)) ? 2 : 1;
                    sum += run < SHORTEST_COUNTED_RUN ? run * single : 1 + single;
                    run = 0;
                }
            }
            return sum;
        }

        private static boolean endsRun(Text text, int index, int run) {
            return run == LONGEST_RUN || index + 1 == text.length || text.at(index + 1) != text.at(index);
        }

        private static void writeRun(char character, int run, Text code) {
            boolean counted = run >= SHORTEST_COUNTED_RUN;
            boolean escaped = needsEscape(character);
            if (counted) {
                code.add((char) ('0' + run));
            }
            int times = counted ? 1 : run;
            for (int i = 0; i < times; i++) {
                if (escaped) {
                    code.add('\\');
                }
                code.add(character);
            }
        }

        private static boolean needsEscape(char character) {
            return character == '\\' || isDigit(character);
        }

        /** Answers the fault position, or NONE if the code is valid. */
        static int faultIn(Text code) {
            boolean counted = false;
            boolean escaped = false;
            for (int i = 0; i < code.length; i++) {
                char character = code.at(i);
                if (escaped) {
                    if (!needsEscape(character)) {
                        return i;
                    }
                    escaped = false;
                    counted = false;
                } else if (character == '\\') {
                    escaped = true;
                } else if (isDigit(character)) {
                    if (counted || character < '0' + SHORTEST_COUNTED_RUN) {
                        return i;
                    }
                    counted = true;
                } else {
                    counted = false;
                }
            }
            return counted || escaped ? code.length : NONE;
        }

        /** Decodes a code that is valid. */
        static void unfold(Text code, Text text) {
            text.clear();
            int times = 1;
            boolean escaped = false;
            for (int i = 0; i < code.length; i++) {
                char character = code.at(i);
                if (!escaped && character == '\\') {
                    escaped = true;
                } else if (!escaped && isDigit(character)) {
                    times = character - '0';
                } else {
                    for (int k = 0; k < times; k++) {
                        text.add(character);
                    }
                    times = 1;
                    escaped = false;
                }
            }
        }

        /** Answers the length of the text of a code that is valid. */
        static int unfoldedLength(Text code) {
            int sum = 0;
            int times = 1;
            boolean escaped = false;
            for (int i = 0; i < code.length; i++) {
                char character = code.at(i);
                if (!escaped && character == '\\') {
                    escaped = true;
                } else if (!escaped && isDigit(character)) {
                    times = character - '0';
                } else {
                    sum += times;
                    times = 1;
                    escaped = false;
                }
            }
            return sum;
        }

        static int sumOf(Text text) {
            int sum = 0;
            for (int i = 0; i < text.length; i++) {
                sum += text.at(i) * (i + 1);
            }
            return sum % CHECKSUM_DIVISOR;
        }
    }

    /** A telegram with its pages. */
    private static final class Telegram {
        final Text code = new Text(CODE_LIMIT);
        private final int[] rots = new int[PAGE_LIMIT];
        int pages = 0;
        int number = 0;
        int root = 0;
        int priority = 0;
        int checksum = 0;

        static int pagesFor(int length) {
            return (length + PAGE_LENGTH - 1) / PAGE_LENGTH;
        }

        void copyFrom(Telegram other) {
            code.copyFrom(other.code);
            for (int page = 0; page < rots.length && page < other.rots.length; page++) {
                rots[page] = other.rots[page];
            }
            pages = other.pages;
            number = other.number;
            root = other.root;
            priority = other.priority;
            checksum = other.checksum;
        }

        void inscribe(Text newCode) {
            code.copyFrom(newCode);
            pages = pagesFor(code.length);
            for (int page = 0; page < rots.length; page++) {
                rots[page] = 0;
            }
        }

        boolean hasPage(int page) {
            return page >= 0 && page < pages && page < rots.length;
        }

        int rotAt(int page) {
            return hasPage(page) ? rots[page] : 0;
        }

        /** Answers how many pages become rotten. */
        int rotBy(int amount) {
            int before = countRottenPages();
            for (int page = 0; page < pages && page < rots.length; page++) {
                rots[page] = Math.min(rots[page] + amount, ROTTEN);
            }
            return countRottenPages() - before;
        }

        int countRottenPages() {
            int sum = 0;
            for (int page = 0; page < pages && page < rots.length; page++) {
                sum += rots[page] >= ROTTEN ? 1 : 0;
            }
            return sum;
        }

        int findRottenPage() {
            for (int page = 0; page < pages && page < rots.length; page++) {
                if (rots[page] >= ROTTEN) {
                    return page;
                }
            }
            return NONE;
        }

        int greatestRot() {
            int most = 0;
            for (int page = 0; page < pages && page < rots.length; page++) {
                most = Math.max(most, rots[page]);
            }
            return most;
        }

        boolean isAheadByPriority(Telegram other) {
            if (priority != other.priority) {
                return priority > other.priority;
            }
            if (pages != other.pages) {
                return pages < other.pages;
            }
            return number < other.number;
        }

        boolean isAheadByRot(Telegram other) {
            if (greatestRot() != other.greatestRot()) {
                return greatestRot() > other.greatestRot();
            }
            return number < other.number;
        }

        void writeTo(Text line) {
            line.clear();
            line.add('#');
            line.addNumber(number);
            line.add('@');
            line.addNumber(root);
            line.add('!');
            line.addNumber(priority);
            for (int page = 0; page < pages && page < rots.length; page++) {
                writePage(page, line);
            }
        }

        private void writePage(int page, Text line) {
            int start = page * PAGE_LENGTH;
            int end = Math.min(start + PAGE_LENGTH, code.length);
            int rot = rotAt(page);
            line.add(' ');
            line.add('[');
            for (int i = start; i < end; i++) {
                line.add(rot >= ROTTEN ? '~' : code.at(i));
            }
            line.add(']');
            line.addNumber(rot);
        }
    }

    /** Everything that changes can change. */
    private static final class Store {
        private final int[] dampnesses = new int[ROOT_LIMIT];
        // In the order of the numbers; what stands behind the count waits to be used again.
        private final Telegram[] telegrams = new Telegram[TELEGRAM_LIMIT];
        int rootCount = 0;
        int telegramCount = 0;
        int nextNumber = 0;
        int day = 0;
        int carvedCharacters = 0;

        Store() {
            for (int i = 0; i < telegrams.length; i++) {
                telegrams[i] = new Telegram();
            }
        }

        void copyFrom(Store other) {
            for (int root = 0; root < dampnesses.length; root++) {
                dampnesses[root] = other.dampnessAt(root);
            }
            for (int i = 0; i < telegrams.length; i++) {
                Telegram source = other.telegramIn(i);
                if (source != null) {
                    telegrams[i].copyFrom(source);
                }
            }
            rootCount = other.rootCount;
            telegramCount = other.telegramCount;
            nextNumber = other.nextNumber;
            day = other.day;
            carvedCharacters = other.carvedCharacters;
        }

        boolean hasRoot(int root) {
            return root >= 0 && root < rootCount && root < dampnesses.length;
        }

        int dampnessAt(int root) {
            return hasRoot(root) ? dampnesses[root] : 0;
        }

        void putDampness(int root, int dampness) {
            if (hasRoot(root)) {
                dampnesses[root] = dampness;
            }
        }

        int findDampestRoot() {
            int dampest = NONE;
            for (int root = 0; root < rootCount && root < dampnesses.length; root++) {
                if (dampest == NONE || dampnessAt(root) > dampnessAt(dampest)) {
                    dampest = root;
                }
            }
            return dampest;
        }

        /** Answers null if there is no such position. */
        Telegram telegramIn(int position) {
            boolean inside = position >= 0 && position < telegramCount && position < telegrams.length;
            return inside ? telegrams[position] : null;
        }

        private int positionOf(int number) {
            for (int i = 0; i < telegramCount && i < telegrams.length; i++) {
                if (telegrams[i].number == number) {
                    return i;
                }
            }
            return NONE;
        }

        /** Answers null if there is no such telegram. */
        Telegram find(int number) {
            return telegramIn(positionOf(number));
        }

        boolean hasRoomFor(int root, int pages) {
            return countPagesIn(root) + pages <= PAGE_LIMIT;
        }

        /** Answers null if there is no room for one telegram more. */
        Telegram addTelegram() {
            if (telegramCount < 0 || telegramCount >= telegrams.length) {
                return null;
            }
            Telegram added = telegrams[telegramCount];
            added.number = nextNumber;
            telegramCount++;
            nextNumber++;
            return added;
        }

        boolean removeTelegram(int number) {
            int position = positionOf(number);
            Telegram removed = telegramIn(position);
            if (removed == null) {
                return false;
            }
            for (int i = position; i + 1 < telegrams.length; i++) {
                telegrams[i] = telegrams[i + 1];
            }
            telegrams[telegrams.length - 1] = removed;
            telegramCount--;
            return true;
        }

        int findByPriority(int rank) {
            for (int i = 0; i < telegramCount && i < telegrams.length; i++) {
                int ahead = 0;
                for (int k = 0; k < telegramCount && k < telegrams.length; k++) {
                    ahead += telegrams[k].isAheadByPriority(telegrams[i]) ? 1 : 0;
                }
                if (ahead == rank) {
                    return telegrams[i].number;
                }
            }
            return NONE;
        }

        int findByRot(int rank) {
            for (int i = 0; i < telegramCount && i < telegrams.length; i++) {
                int ahead = 0;
                for (int k = 0; k < telegramCount && k < telegrams.length; k++) {
                    ahead += telegrams[k].isAheadByRot(telegrams[i]) ? 1 : 0;
                }
                if (ahead == rank) {
                    return telegrams[i].number;
                }
            }
            return NONE;
        }

        int countPagesIn(int root) {
            int sum = 0;
            for (int i = 0; i < telegramCount && i < telegrams.length; i++) {
                sum += telegrams[i].root == root ? telegrams[i].pages : 0;
            }
            return sum;
        }

        int countPages() {
            int sum = 0;
            for (int i = 0; i < telegramCount && i < telegrams.length; i++) {
                sum += telegrams[i].pages;
            }
            return sum;
        }

        int countRottenPages() {
            int sum = 0;
            for (int i = 0; i < telegramCount && i < telegrams.length; i++) {
                sum += telegrams[i].countRottenPages();
            }
            return sum;
        }

        int sumCodeLengths() {
            int sum = 0;
            for (int i = 0; i < telegramCount && i < telegrams.length; i++) {
                sum += telegrams[i].code.length;
            }
            return sum;
        }

        /** Answers how many pages become rotten. */
        int rotBy(int days) {
            int sum = 0;
            for (int i = 0; i < telegramCount && i < telegrams.length; i++) {
                sum += telegrams[i].rotBy(days * dampnessAt(telegrams[i].root));
            }
            return sum;
        }

        /** Answers NONE if the telegram never has a rotten page. */
        int countDaysUntilRotten(Telegram telegram) {
            int missing = ROTTEN - telegram.greatestRot();
            int dampness = dampnessAt(telegram.root);
            if (missing <= 0) {
                return 0;
            }
            return dampness > 0 ? (missing + dampness - 1) / dampness : NONE;
        }
    }

    /** Carries out the changes of a store, and reads; each method answers an outcome. */
    private static final class Carver {
        final Store store = new Store();
        final Text decoded = new Text(TEXT_LIMIT);
        final Text recoded = new Text(RECODED_LIMIT);
        // Means something only when the latest outcome was a denial.
        int detail = 0;

        private int denied(int number, int newDetail) {
            detail = newDetail;
            return -number;
        }

        int carryOut(int kind, int first, int second) {
            switch (kind) {
                case ROOT:
                    return plantRoot(first);
                case DRY:
                    return dryRoot(first);
                case AGE:
                    return passDays(first);
                case RECARVE:
                    return carveAnew(first);
                case MOVE:
                    return moveTelegram(first, second);
                case DROP:
                    return dropTelegram(first);
                default:
                    return BAD_ARGUMENT;
            }
        }

        int plantRoot(int dampness) {
            if (dampness < 0 || dampness > MOST_DAMPNESS) {
                return BAD_ARGUMENT;
            }
            if (store.rootCount >= ROOT_LIMIT) {
                return denied(LIMIT_REACHED, ROOT_LIMIT);
            }
            int root = store.rootCount;
            store.rootCount++;
            store.putDampness(root, dampness);
            return root;
        }

        int dryRoot(int root) {
            if (!store.hasRoot(root)) {
                return NO_INDEX;
            }
            int dampness = store.dampnessAt(root);
            if (dampness == 0) {
                return denied(VALUE_PRESENT, dampness);
            }
            store.putDampness(root, dampness - 1);
            return dampness - 1;
        }

        int carveText(int root, int priority, Text text) {
            if (!store.hasRoot(root)) {
                return NO_INDEX;
            }
            if (priority < 0 || priority > MOST_PRIORITY) {
                return BAD_ARGUMENT;
            }
            if (text.length == 0) {
                return denied(MESSAGE_EMPTY, store.telegramCount);
            }
            Code.fold(text, recoded);
            boolean fits = store.hasRoomFor(root, Telegram.pagesFor(recoded.length));
            Telegram added = fits ? store.addTelegram() : null;
            if (added == null) {
                return denied(LIMIT_REACHED, PAGE_LIMIT);
            }
            added.root = root;
            added.priority = priority;
            added.checksum = Code.sumOf(text);
            added.inscribe(recoded);
            store.carvedCharacters += text.length;
            return added.number;
        }

        int damageCode(int number, int index, char character) {
            Telegram telegram = store.find(number);
            if (telegram == null) {
                return NO_TELEGRAM;
            }
            if (!telegram.code.has(index)) {
                return NO_INDEX;
            }
            if (!isTypeable(character)) {
                return BAD_ARGUMENT;
            }
            char before = telegram.code.at(index);
            if (before == character) {
                return denied(VALUE_PRESENT, character);
            }
            telegram.code.put(index, character);
            return before;
        }

        int carveAnew(int number) {
            Telegram telegram = store.find(number);
            if (telegram == null) {
                return NO_TELEGRAM;
            }
            int outcome = unfoldIfReadable(telegram);
            if (outcome < 0) {
                return outcome;
            }
            Code.fold(decoded, recoded);
            int pages = Telegram.pagesFor(recoded.length);
            if (!store.hasRoomFor(telegram.root, pages - telegram.pages)) {
                return denied(LIMIT_REACHED, PAGE_LIMIT);
            }
            telegram.inscribe(recoded);
            return pages;
        }

        int moveTelegram(int number, int root) {
            Telegram telegram = store.find(number);
            if (telegram == null) {
                return NO_TELEGRAM;
            }
            if (!store.hasRoot(root)) {
                return NO_INDEX;
            }
            int before = telegram.root;
            if (before == root) {
                return denied(VALUE_PRESENT, root);
            }
            if (!store.hasRoomFor(root, telegram.pages)) {
                return denied(LIMIT_REACHED, PAGE_LIMIT);
            }
            telegram.root = root;
            return before;
        }

        int dropTelegram(int number) {
            return store.removeTelegram(number) ? store.telegramCount : NO_TELEGRAM;
        }

        int passDays(int days) {
            if (days < 1 || days > MOST_DAYS) {
                return BAD_ARGUMENT;
            }
            store.day += days;
            return store.rotBy(days);
        }

        int readTelegram(int number) {
            Telegram telegram = store.find(number);
            return telegram == null ? NO_TELEGRAM : unfoldIfReadable(telegram);
        }

        /** Leaves the text of a readable telegram in decoded. */
        private int unfoldIfReadable(Telegram telegram) {
            int rotten = telegram.findRottenPage();
            if (rotten != NONE) {
                return denied(PAGE_ROTTEN, rotten);
            }
            int fault = Code.faultIn(telegram.code);
            if (fault != NONE) {
                return denied(CODE_INVALID, fault);
            }
            Code.unfold(telegram.code, decoded);
            int checksum = Code.sumOf(decoded);
            return checksum == telegram.checksum ? 0 : denied(CHECKSUMS_DIFFER, checksum);
        }
    }

    /** The stores as they were before the latest changes, in a ring with one place to spare. */
    private static final class History {
        private static final int PLACES = UNDO_LIMIT + 1;
        private final Store[] stores = new Store[PLACES];
        private int first = 0;
        int count = 0;

        History() {
            for (int i = 0; i < stores.length; i++) {
                stores[i] = new Store();
            }
        }

        /** The spare place is not yet counted, so that a change that is refused leaves the history as it was. */
        Store spare() {
            return stores[Math.floorMod(first + count, PLACES)];
        }

        void prepare(Store now) {
            spare().copyFrom(now);
        }

        void keep() {
            if (count < UNDO_LIMIT) {
                count++;
            } else {
                first = Math.floorMod(first + 1, PLACES);
            }
        }

        void takeBack(Store now) {
            if (count > 0) {
                count--;
                now.copyFrom(spare());
            }
        }

        void forget() {
            count = 0;
        }
    }

    /** The latest denial. */
    private static final class Denial {
        int number = NONE;
        int detail = 0;
        int cause = NONE;

        void note(int newNumber, int newDetail, int newCause) {
            number = newNumber;
            detail = newDetail;
            cause = newCause;
        }
    }

    /** The commands of a buffer. */
    private static final class Commands {
        private final int[] kinds = new int[COMMAND_LIMIT];
        private final int[] firsts = new int[COMMAND_LIMIT];
        private final int[] seconds = new int[COMMAND_LIMIT];
        // Stays at the character that does not match.
        private int position = 0;
        int count = 0;

        /** Answers the fault position, or NONE if the text matches the grammar. */
        int parse(Text text) {
            position = 0;
            count = 0;
            for (int i = 0; i < COMMAND_LIMIT; i++) {
                if (!parseCommand(text)) {
                    return position;
                }
                if (position == text.length) {
                    return NONE;
                }
                if (!parseSign(text, ';')) {
                    return position;
                }
            }
            return position;
        }

        private boolean parseCommand(Text text) {
            int kind = parseWord(text);
            if (kind == NONE) {
                return false;
            }
            int first = parseDigits(text, kind == ROOT || kind == DRY ? 1 : 2);
            if (first == NONE) {
                return false;
            }
            int second = 0;
            if (kind == MOVE) {
                second = parseSign(text, ' ') ? parseDigits(text, 1) : NONE;
            }
            if (second == NONE) {
                return false;
            }
            keepCommand(kind, first, second);
            return true;
        }

        private void keepCommand(int kind, int first, int second) {
            if (has(count)) {
                kinds[count] = kind;
                firsts[count] = first;
                seconds[count] = second;
                count++;
            }
        }

        private int parseWord(Text text) {
            int furthest = 0;
            for (int kind = 0; kind < WORD_COUNT; kind++) {
                String word = wordOf(kind);
                int matching = countMatching(text, word);
                if (matching == word.length()) {
                    position += matching;
                    return kind;
                }
                furthest = Math.max(furthest, matching);
            }
            position += furthest;
            return NONE;
        }

        private int countMatching(Text text, String word) {
            for (int i = 0; i < word.length(); i++) {
                if (text.at(position + i) != word.charAt(i)) {
                    return i;
                }
            }
            return word.length();
        }

        private static String wordOf(int kind) {
            switch (kind) {
                case ROOT:
                    return "root ";
                case DRY:
                    return "dry ";
                case AGE:
                    return "age ";
                case RECARVE:
                    return "recarve ";
                case MOVE:
                    return "move ";
                default:
                    return "drop ";
            }
        }

        private boolean parseSign(Text text, char sign) {
            if (text.at(position) != sign) {
                return false;
            }
            position++;
            return true;
        }

        private int parseDigits(Text text, int most) {
            int value = NONE;
            for (int i = 0; i < most && isDigit(text.at(position)); i++) {
                value = Math.max(value, 0) * 10 + text.at(position) - '0';
                position++;
            }
            return value;
        }

        private boolean has(int index) {
            return index >= 0 && index < COMMAND_LIMIT;
        }

        int kindOf(int index) {
            return has(index) ? kinds[index] : NONE;
        }

        int firstOf(int index) {
            return has(index) ? firsts[index] : 0;
        }

        int secondOf(int index) {
            return has(index) ? seconds[index] : 0;
        }
    }
}
