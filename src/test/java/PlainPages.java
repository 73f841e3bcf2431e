import java.util.ArrayDeque;
import java.util.ArrayList;
import java.util.Collections;
import java.util.Comparator;
import java.util.Deque;
import java.util.List;
import java.util.NoSuchElementException;
import java.util.TreeMap;
import java.util.regex.Matcher;
import java.util.regex.Pattern;

/** A second TurnipPages, written from the document with the whole library, to compare with the first. */
public final class PlainPages {
    private static final Pattern RUN = Pattern.compile("(.)\\1{0,8}");
    private static final Pattern CODE = Pattern.compile("([3-9]?([^0-9\\\\]|\\\\[0-9\\\\]))*");
    private static final Pattern UNIT = Pattern.compile("([3-9]?)(?:([^0-9\\\\])|\\\\([0-9\\\\]))");
    private static final String COMMAND =
            "(root [0-9]|dry [0-9]|age [0-9]{1,2}|recarve [0-9]{1,2}|move [0-9]{1,2} [0-9]|drop [0-9]{1,2})";
    private static final Pattern COMMANDS = Pattern.compile(COMMAND + "(;" + COMMAND + ")*");

    private static final class Telegram {
        int number;
        int root;
        int priority;
        int checksum;
        String code;
        List<Integer> rots;

        Telegram copy() {
            Telegram copy = new Telegram();
            copy.number = number;
            copy.root = root;
            copy.priority = priority;
            copy.checksum = checksum;
            copy.code = code;
            copy.rots = new ArrayList<>(rots);
            return copy;
        }

        void write(String newCode) {
            code = newCode;
            rots = new ArrayList<>(Collections.nCopies((code.length() + 11) / 12, 0));
        }

        String page(int page) {
            return code.substring(page * 12, Math.min(code.length(), page * 12 + 12));
        }
    }

    private static final class State {
        List<Integer> roots = new ArrayList<>();
        TreeMap<Integer, Telegram> telegrams = new TreeMap<>();
        int next = 0;
        int day = 0;
        int carved = 0;

        State copy() {
            State copy = new State();
            copy.roots.addAll(roots);
            telegrams.forEach((number, telegram) -> copy.telegrams.put(number, telegram.copy()));
            copy.next = next;
            copy.day = day;
            copy.carved = carved;
            return copy;
        }
    }

    private State now = new State();
    private State saved = null;
    private final Deque<State> before = new ArrayDeque<>();
    private boolean inCommands = false;
    private String message = "";
    private String buffer = "";
    private String line = "";
    private Integer fault = null;
    private Integer denial = null;
    private int detail = 0;
    private Integer cause = null;

    private static String encoded(String text) {
        StringBuilder out = new StringBuilder();
        Matcher runs = RUN.matcher(text);
        while (runs.find()) {
            String run = runs.group();
            String sign = run.substring(0, 1).replaceAll("[0-9\\\\]", "\\\\$0");
            out.append(run.length() > 2 ? run.length() + sign : sign.repeat(run.length()));
        }
        return out.toString();
    }

    private static int codeFault(String code) {
        if (CODE.matcher(code).matches()) {
            return -1;
        }
        for (int length = 1; length <= code.length(); length++) {
            String start = code.substring(0, length);
            if (!CODE.matcher(start).matches() && !CODE.matcher(start + "a").matches()
                    && !CODE.matcher(start + "\\").matches()) {
                return length - 1;
            }
        }
        return code.length();
    }

    private static String decoded(String code) {
        StringBuilder out = new StringBuilder();
        Matcher units = UNIT.matcher(code);
        while (units.find()) {
            String sign = units.group(2) != null ? units.group(2) : units.group(3);
            out.append(sign.repeat(units.group(1).isEmpty() ? 1 : Integer.parseInt(units.group(1))));
        }
        return out.toString();
    }

    private static int sum(String text) {
        int sum = 0;
        for (int i = 0; i < text.length(); i++) {
            sum += text.charAt(i) * (i + 1);
        }
        return sum % 97;
    }

    private RuntimeException denied(int number, int newDetail) {
        denial = number;
        detail = newDetail;
        cause = null;
        return new UnsupportedOperationException();
    }

    private void change() {
        if (inCommands) {
            return;
        }
        before.addLast(now.copy());
        if (before.size() > 8) {
            before.removeFirst();
        }
    }

    private void needRoot(int root) {
        if (root < 0 || root >= now.roots.size()) {
            throw new IndexOutOfBoundsException();
        }
    }

    private Telegram need(int telegram) {
        if (!now.telegrams.containsKey(telegram)) {
            throw new NoSuchElementException();
        }
        return now.telegrams.get(telegram);
    }

    private int pages(int root) {
        return now.telegrams.values().stream().filter(t -> t.root == root).mapToInt(t -> t.rots.size()).sum();
    }

    public int type(char character) {
        if (character < 32 || character > 126) {
            throw new IllegalArgumentException();
        }
        if (message.length() == 40) {
            throw new IllegalStateException();
        }
        message += character;
        return message.length();
    }

    public int clearMessage() {
        int length = message.length();
        message = "";
        return length;
    }

    public int encodedLength() {
        return encoded(message).length();
    }

    public int encodedLengthByRuns() {
        return encoded(message).length();
    }

    public int encode() {
        line = encoded(message);
        return line.length();
    }

    public int decode() {
        int position = codeFault(message);
        if (position >= 0) {
            fault = position;
            throw new IllegalArgumentException();
        }
        line = decoded(message);
        return line.length();
    }

    public int messageChecksum() {
        return sum(message);
    }

    public int addRoot(int dampness) {
        if (dampness < 0 || dampness > 5) {
            throw new IllegalArgumentException();
        }
        if (now.roots.size() == 4) {
            throw denied(1, 4);
        }
        change();
        now.roots.add(dampness);
        return now.roots.size() - 1;
    }

    public int dry(int root) {
        needRoot(root);
        if (now.roots.get(root) == 0) {
            throw denied(4, 0);
        }
        change();
        now.roots.set(root, now.roots.get(root) - 1);
        return now.roots.get(root);
    }

    public int rootCount() {
        return now.roots.size();
    }

    public int dampness(int root) {
        needRoot(root);
        return now.roots.get(root);
    }

    public int pagesIn(int root) {
        needRoot(root);
        return pages(root);
    }

    public int dampestRoot() {
        if (now.roots.isEmpty()) {
            throw new NoSuchElementException();
        }
        return now.roots.indexOf(Collections.max(now.roots));
    }

    public int carve(int root, int priority) {
        needRoot(root);
        if (priority < 0 || priority > 9) {
            throw new IllegalArgumentException();
        }
        if (message.isEmpty()) {
            throw denied(2, now.telegrams.size());
        }
        Telegram t = new Telegram();
        t.write(encoded(message));
        if (pages(root) + t.rots.size() > 8) {
            throw denied(1, 8);
        }
        change();
        t.number = now.next++;
        t.root = root;
        t.priority = priority;
        t.checksum = sum(message);
        now.telegrams.put(t.number, t);
        now.carved += message.length();
        message = "";
        return t.number;
    }

    public char damage(int telegram, int index, char character) {
        Telegram t = need(telegram);
        if (index < 0 || index >= t.code.length()) {
            throw new IndexOutOfBoundsException();
        }
        if (character < 32 || character > 126) {
            throw new IllegalArgumentException();
        }
        char old = t.code.charAt(index);
        if (old == character) {
            throw denied(4, character);
        }
        change();
        t.code = t.code.substring(0, index) + character + t.code.substring(index + 1);
        return old;
    }

    private String readable(Telegram t) {
        if (t.rots.contains(20)) {
            throw denied(3, t.rots.indexOf(20));
        }
        if (codeFault(t.code) >= 0) {
            throw denied(5, codeFault(t.code));
        }
        String text = decoded(t.code);
        if (sum(text) != t.checksum) {
            throw denied(6, sum(text));
        }
        return text;
    }

    public int recarve(int telegram) {
        Telegram t = need(telegram);
        String text = readable(t);
        Telegram anew = t.copy();
        anew.write(encoded(text));
        if (pages(t.root) - t.rots.size() + anew.rots.size() > 8) {
            throw denied(1, 8);
        }
        change();
        now.telegrams.put(telegram, anew);
        return anew.rots.size();
    }

    public int move(int telegram, int root) {
        Telegram t = need(telegram);
        needRoot(root);
        if (t.root == root) {
            throw denied(4, root);
        }
        if (pages(root) + t.rots.size() > 8) {
            throw denied(1, 8);
        }
        change();
        int old = t.root;
        t.root = root;
        return old;
    }

    public int drop(int telegram) {
        need(telegram);
        change();
        now.telegrams.remove(telegram);
        return now.telegrams.size();
    }

    public int read(int telegram) {
        line = readable(need(telegram));
        return line.length();
    }

    public int telegramCount() {
        return now.telegrams.size();
    }

    public int telegramAt(int position) {
        if (position < 0 || position >= now.telegrams.size()) {
            throw new IndexOutOfBoundsException();
        }
        return new ArrayList<>(now.telegrams.keySet()).get(position);
    }

    private int ranked(int rank, Comparator<Telegram> order) {
        List<Telegram> list = new ArrayList<>(now.telegrams.values());
        list.sort(order);
        if (rank < 0 || rank >= list.size()) {
            throw new NoSuchElementException();
        }
        return list.get(rank).number;
    }

    public int telegramByPriority(int rank) {
        return ranked(rank, Comparator.comparing((Telegram t) -> -t.priority).thenComparing(t -> t.rots.size())
                .thenComparing(t -> t.number));
    }

    public int telegramByRot(int rank) {
        return ranked(rank, Comparator.comparing((Telegram t) -> -Collections.max(t.rots)).thenComparing(t -> t.number));
    }

    public int rootOf(int telegram) {
        return need(telegram).root;
    }

    public int checksumOf(int telegram) {
        return need(telegram).checksum;
    }

    public int codeLength(int telegram) {
        return need(telegram).code.length();
    }

    public char codeCharacter(int telegram, int index) {
        String code = need(telegram).code;
        if (index < 0 || index >= code.length()) {
            throw new IndexOutOfBoundsException();
        }
        return code.charAt(index);
    }

    public int decodedLength(int telegram) {
        if (codeFault(need(telegram).code) >= 0) {
            throw new NoSuchElementException();
        }
        return decoded(need(telegram).code).length();
    }

    public int decodedLengthByUnits(int telegram) {
        return decodedLength(telegram);
    }

    public boolean isReadable(int telegram) {
        Telegram t = need(telegram);
        return !t.rots.contains(20) && codeFault(t.code) < 0 && sum(decoded(t.code)) == t.checksum;
    }

    public int age(int days) {
        if (days < 1 || days > 20) {
            throw new IllegalArgumentException();
        }
        change();
        int rotten = rottenPages();
        for (int i = 0; i < days; i++) {
            now.day++;
            for (Telegram t : now.telegrams.values()) {
                t.rots.replaceAll(rot -> Math.min(20, rot + now.roots.get(t.root)));
            }
        }
        return rottenPages() - rotten;
    }

    public int pageCount(int telegram) {
        return need(telegram).rots.size();
    }

    public int rotOf(int telegram, int page) {
        Telegram t = need(telegram);
        if (page < 0 || page >= t.rots.size()) {
            throw new IndexOutOfBoundsException();
        }
        return t.rots.get(page);
    }

    public int daysUntilRotten(int telegram) {
        Telegram t = need(telegram);
        for (int days = 0; days <= 20; days++) {
            if (Collections.max(t.rots) + days * now.roots.get(t.root) >= 20) {
                return days;
            }
        }
        throw new NoSuchElementException();
    }

    public int rottenPages() {
        return now.telegrams.values().stream().mapToInt(t -> Collections.frequency(t.rots, 20)).sum();
    }

    public int day() {
        return now.day;
    }

    public int carvedCharacters() {
        return now.carved;
    }

    public double meanCodeLength() {
        if (now.telegrams.isEmpty()) {
            throw new ArithmeticException();
        }
        return (double) now.telegrams.values().stream().mapToInt(t -> t.code.length()).sum() / (double) telegramCount();
    }

    public float rottenShare() {
        int pages = now.telegrams.values().stream().mapToInt(t -> t.rots.size()).sum();
        if (pages == 0) {
            throw new ArithmeticException();
        }
        return (float) rottenPages() / (float) pages;
    }

    public int feed(char character) {
        if (buffer.length() == 60) {
            throw new IllegalStateException();
        }
        buffer += character;
        return buffer.length();
    }

    private static int commandFault(String commands) {
        if (COMMANDS.matcher(commands).matches()) {
            return -1;
        }
        for (int length = 1; length <= commands.length(); length++) {
            Matcher start = COMMANDS.matcher(commands.substring(0, length));
            if (!start.matches() && !start.hitEnd()) {
                return length - 1;
            }
        }
        return commands.length();
    }

    private void command(String command) {
        String[] words = command.split(" ");
        int first = Integer.parseInt(words[1]);
        switch (words[0]) {
            case "root" -> addRoot(first);
            case "dry" -> dry(first);
            case "age" -> age(first);
            case "recarve" -> recarve(first);
            case "move" -> move(first, Integer.parseInt(words[2]));
            default -> drop(first);
        }
    }

    public int execute() {
        String commands = buffer;
        buffer = "";
        int position = commandFault(commands);
        if (position >= 0) {
            fault = position;
            throw new IllegalArgumentException();
        }
        String[] each = commands.split(";");
        State old = now.copy();
        inCommands = true;
        for (int i = 0; i < each.length; i++) {
            try {
                command(each[i]);
            } catch (RuntimeException e) {
                now = old;
                inCommands = false;
                int why = e instanceof UnsupportedOperationException ? denial : 8;
                RuntimeException denied = denied(7, i);
                cause = why;
                throw denied;
            }
        }
        inCommands = false;
        State done = now;
        now = old;
        change();
        now = done;
        return each.length;
    }

    public int faultPosition() {
        if (fault == null) {
            throw new NoSuchElementException();
        }
        return fault;
    }

    public int writeTelegram(int telegram) {
        Telegram t = need(telegram);
        line = "#" + t.number + "@" + t.root + "!" + t.priority;
        for (int page = 0; page < t.rots.size(); page++) {
            int rot = t.rots.get(page);
            line += " [" + (rot == 20 ? t.page(page).replaceAll(".", "~") : t.page(page)) + "]" + rot;
        }
        return line.length();
    }

    public char lineCharacter(int index) {
        if (index < 0 || index >= line.length()) {
            throw new IndexOutOfBoundsException();
        }
        return line.charAt(index);
    }

    public int denial() {
        if (denial == null) {
            throw new NoSuchElementException();
        }
        return denial;
    }

    public int denialDetail() {
        denial();
        return detail;
    }

    public int denialCause() {
        if (cause == null) {
            throw new NoSuchElementException();
        }
        return cause;
    }

    public int undo() {
        if (before.isEmpty()) {
            throw new IllegalStateException();
        }
        now = before.removeLast();
        return before.size();
    }

    public int undoCount() {
        return before.size();
    }

    public int saveSnapshot() {
        saved = now.copy();
        return now.telegrams.size();
    }

    public int restoreSnapshot() {
        if (saved == null) {
            throw new IllegalStateException();
        }
        now = saved.copy();
        before.clear();
        return now.telegrams.size();
    }
}
