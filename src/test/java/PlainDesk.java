import java.util.ArrayDeque;
import java.util.ArrayList;
import java.util.Deque;
import java.util.List;
import java.util.TreeMap;
import java.util.TreeSet;

/**
 * The document once more, sentence by sentence and with no thought of speed: it lets every tick
 * pass singly, copies whole states as objects, and looks everything up anew. ModelTest compares
 * SectionDesk with it.
 */
final class PlainDesk {
    static final int NONE = -1;

    static final class Section {
        int number;
        int parent;
        List<Integer> children = new ArrayList<>();
        int version;
        int[] lines = new int[6];

        Section copy() {
            Section copy = new Section();
            copy.number = number;
            copy.parent = parent;
            copy.children = new ArrayList<>(children);
            copy.version = version;
            copy.lines = lines.clone();
            return copy;
        }
    }

    static final class Out {
        int user;
        boolean shared;
        boolean held = true;
        int section;
        int expiry;
        TreeMap<Integer, int[]> base = new TreeMap<>();
        TreeMap<Integer, int[]> own = new TreeMap<>();

        Out copy() {
            Out copy = new Out();
            copy.user = user;
            copy.shared = shared;
            copy.held = held;
            copy.section = section;
            copy.expiry = expiry;
            for (int s : base.keySet()) {
                copy.base.put(s, base.get(s).clone());
                copy.own.put(s, own.get(s).clone());
            }
            return copy;
        }

        int edited() {
            int edited = 0;
            for (int s : base.keySet()) {
                for (int line = 0; line < 6; line++) {
                    edited += base.get(s)[line] != own.get(s)[line] ? 1 : 0;
                }
            }
            return edited;
        }
    }

    record Request(int user, int section, int ticks, boolean shared) { }

    record Entry(int tick, int section, int line, int before, int after, int user) {
        int fact(int what) {
            return new int[] {tick, section, line, before, after, user}[what];
        }
    }

    static final class State {
        int tick;
        TreeMap<Integer, Section> sections = new TreeMap<>();
        TreeMap<Integer, Out> outs = new TreeMap<>();
        List<Request> waiting = new ArrayList<>();
        List<Entry> entries = new ArrayList<>();
        long[] heldTicks = new long[6];

        State copy() {
            State copy = new State();
            copy.tick = tick;
            sections.forEach((number, section) -> copy.sections.put(number, section.copy()));
            outs.forEach((number, out) -> copy.outs.put(number, out.copy()));
            copy.waiting = new ArrayList<>(waiting);
            copy.entries = new ArrayList<>(entries);
            copy.heldTicks = heldTicks.clone();
            return copy;
        }
    }

    private State now = new State();
    private final Deque<State> saved = new ArrayDeque<>();
    private final StringBuilder text = new StringBuilder();
    private boolean saving = true;

    PlainDesk() {
        Section root = new Section();
        root.parent = NONE;
        now.sections.put(0, root);
    }

    State state() {
        return now;
    }

    private void save() {
        if (saving) {
            push(now.copy());
        }
    }

    private void push(State state) {
        saved.addLast(state);
        if (saved.size() > 4) {
            saved.removeFirst();
        }
    }

    private static void there(boolean condition) {
        if (!condition) {
            throw new IndexOutOfBoundsException();
        }
    }

    private static void inRange(boolean condition) {
        if (!condition) {
            throw new IllegalArgumentException();
        }
    }

    private static void allowed(boolean condition) {
        if (!condition) {
            throw new IllegalStateException();
        }
    }

    private static boolean isLine(int line) {
        return line >= 0 && line <= 5;
    }

    private static boolean isUser(int user) {
        return user >= 0 && user <= 5;
    }

    private boolean isBelow(int section, int top) {
        int at = now.sections.get(section).parent;
        while (at != NONE) {
            if (at == top) {
                return true;
            }
            at = now.sections.get(at).parent;
        }
        return false;
    }

    private boolean covers(int top, int section) {
        return top == section || isBelow(section, top);
    }

    private boolean overlap(int a, int b) {
        return covers(a, b) || covers(b, a);
    }

    private TreeSet<Integer> subtree(int top) {
        TreeSet<Integer> found = new TreeSet<>();
        for (int section : now.sections.keySet()) {
            if (covers(top, section)) {
                found.add(section);
            }
        }
        return found;
    }

    private boolean covered(int section) {
        return now.outs.values().stream().anyMatch(out -> covers(out.section, section))
                || now.waiting.stream().anyMatch(request -> covers(request.section, section));
    }

    private boolean claimed(int section) {
        return now.outs.values().stream().anyMatch(out -> overlap(out.section, section))
                || now.waiting.stream().anyMatch(request -> overlap(request.section, section));
    }

    private boolean heldOverlap(int section) {
        return now.outs.values().stream()
                .anyMatch(out -> out.held && overlap(out.section, section));
    }

    int addSection(int parent) {
        there(now.sections.containsKey(parent));
        allowed(now.sections.size() < 20 && !covered(parent));
        save();
        Section section = new Section();
        while (now.sections.containsKey(section.number)) {
            section.number++;
        }
        section.parent = parent;
        now.sections.put(section.number, section);
        now.sections.get(parent).children.add(section.number);
        return section.number;
    }

    int removeSection(int section) {
        there(now.sections.containsKey(section));
        inRange(section != 0);
        allowed(!claimed(section));
        save();
        TreeSet<Integer> gone = subtree(section);
        now.sections.get(now.sections.get(section).parent).children.remove((Integer) section);
        now.sections.keySet().removeAll(gone);
        now.entries.removeIf(entry -> gone.contains(entry.section()));
        return gone.size();
    }

    int moveSection(int section, int parent) {
        there(now.sections.containsKey(section) && now.sections.containsKey(parent));
        inRange(section != 0 && !covers(section, parent));
        allowed(!claimed(section) && !covered(parent));
        save();
        now.sections.get(now.sections.get(section).parent).children.remove((Integer) section);
        now.sections.get(section).parent = parent;
        now.sections.get(parent).children.add(section);
        return depth(section);
    }

    private int depth(int section) {
        int parent = now.sections.get(section).parent;
        return parent == NONE ? 0 : 1 + depth(parent);
    }

    int sections() {
        return now.sections.size();
    }

    int section(int section, int what) {
        there(now.sections.containsKey(section));
        inRange(what >= 0 && what <= 4);
        Section it = now.sections.get(section);
        return new int[] {it.parent, it.children.size(), depth(section), it.version,
            subtree(section).size() - 1}[what];
    }

    int child(int section, int index) {
        there(now.sections.containsKey(section));
        there(index >= 0 && index < now.sections.get(section).children.size());
        return now.sections.get(section).children.get(index);
    }

    int line(int section, int line) {
        there(now.sections.containsKey(section) && isLine(line));
        return now.sections.get(section).lines[line];
    }

    private int change(TreeMap<Integer, int[]> wanted, int user) {
        int changed = 0;
        for (int number : wanted.keySet()) {
            Section section = now.sections.get(number);
            boolean different = false;
            for (int line = 0; line < 6; line++) {
                int before = section.lines[line];
                int after = wanted.get(number)[line];
                if (before != after) {
                    now.entries.add(new Entry(now.tick, number, line, before, after, user));
                    if (now.entries.size() > 150) {
                        now.entries.remove(0);
                    }
                    section.lines[line] = after;
                    different = true;
                    changed++;
                }
            }
            if (different) {
                section.version++;
            }
        }
        return changed;
    }

    int write(int section, int line, int value) {
        there(now.sections.containsKey(section) && isLine(line));
        inRange(value >= 0 && value <= 999);
        allowed(holders(section) == 0);
        save();
        int before = now.sections.get(section).lines[line];
        TreeMap<Integer, int[]> wanted = new TreeMap<>();
        wanted.put(section, now.sections.get(section).lines.clone());
        wanted.get(section)[line] = value;
        change(wanted, NONE);
        return before;
    }

    private List<Integer> absorbed(Request request) {
        List<Integer> absorbed = new ArrayList<>();
        for (int number : now.outs.keySet()) {
            Out out = now.outs.get(number);
            if (!request.shared && out.held && out.user == request.user
                    && isBelow(out.section, request.section)) {
                absorbed.add(number);
            }
        }
        return absorbed;
    }

    private List<Integer> against(Request request) {
        List<Integer> absorbed = absorbed(request);
        List<Integer> against = new ArrayList<>();
        for (int number : now.outs.keySet()) {
            Out out = now.outs.get(number);
            if (out.held && overlap(out.section, request.section)
                    && !(out.shared && request.shared) && !absorbed.contains(number)) {
                against.add(number);
            }
        }
        return against;
    }

    private boolean canBeGranted(Request request) {
        return against(request).isEmpty()
                && now.outs.size() - absorbed(request).size() < 10;
    }

    private boolean blocks(Request one, Request other) {
        return overlap(one.section, other.section) && !(one.shared && other.shared);
    }

    private int grant(Request request) {
        Out made = new Out();
        made.user = request.user;
        made.shared = request.shared;
        made.section = request.section;
        made.expiry = now.tick + request.ticks;
        for (int section : subtree(request.section)) {
            made.base.put(section, now.sections.get(section).lines.clone());
            made.own.put(section, now.sections.get(section).lines.clone());
        }
        for (int number : absorbed(request)) {
            Out gone = now.outs.get(number);
            if (!gone.shared) {
                made.base.putAll(gone.base);
                made.own.putAll(gone.own);
            }
        }
        now.outs.keySet().removeAll(absorbed(request));
        int number = 0;
        while (now.outs.containsKey(number)) {
            number++;
        }
        now.outs.put(number, made);
        return number;
    }

    private int serve() {
        List<Request> still = new ArrayList<>();
        int granted = 0;
        for (Request request : now.waiting) {
            boolean blocked = still.stream().anyMatch(before -> blocks(before, request));
            if (!blocked && canBeGranted(request)) {
                grant(request);
                granted++;
            } else {
                still.add(request);
            }
        }
        now.waiting = still;
        return granted;
    }

    private Request requestOf(int user) {
        return now.waiting.stream().filter(r -> r.user == user).findFirst().orElse(null);
    }

    int request(int user, int section, int ticks, boolean shared) {
        there(isUser(user) && now.sections.containsKey(section));
        inRange(ticks >= 1 && ticks <= 1000);
        allowed(now.outs.values().stream().noneMatch(out -> out.held && out.user == user
                && (covers(out.section, section) || shared && overlap(out.section, section))));
        allowed(requestOf(user) == null && now.waiting.size() < 8);
        save();
        Request request = new Request(user, section, ticks, shared);
        if (canBeGranted(request) && now.waiting.stream().noneMatch(w -> blocks(w, request))) {
            return grant(request);
        }
        now.waiting.add(request);
        return NONE;
    }

    int cancel(int user) {
        there(isUser(user));
        allowed(requestOf(user) != null);
        save();
        now.waiting.remove(requestOf(user));
        serve();
        return now.waiting.size();
    }

    int renew(int checkOut, int ticks) {
        there(now.outs.containsKey(checkOut));
        inRange(ticks >= 1 && ticks <= 1000);
        Out out = now.outs.get(checkOut);
        allowed(out.held && now.waiting.stream().noneMatch(w -> overlap(w.section, out.section)));
        save();
        now.outs.get(checkOut).expiry = now.tick + ticks;
        return now.tick + ticks;
    }

    private void lose(int number) {
        now.outs.get(number).held = false;
        if (now.outs.get(number).shared) {
            now.outs.remove(number);
        }
    }

    int breakUp(int checkOut) {
        there(now.outs.containsKey(checkOut));
        allowed(now.outs.get(checkOut).held);
        save();
        int user = now.outs.get(checkOut).user;
        lose(checkOut);
        serve();
        return user;
    }

    int discard(int checkOut) {
        there(now.outs.containsKey(checkOut));
        save();
        int edited = now.outs.remove(checkOut).edited();
        serve();
        return edited;
    }

    private void thereCopy(int checkOut, int section, int line) {
        there(now.outs.containsKey(checkOut) && now.sections.containsKey(section) && isLine(line));
        there(covers(now.outs.get(checkOut).section, section));
    }

    int edit(int checkOut, int section, int line, int value) {
        thereCopy(checkOut, section, line);
        inRange(value >= 0 && value <= 999);
        allowed(!now.outs.get(checkOut).shared);
        save();
        int[] own = now.outs.get(checkOut).own.get(section);
        int before = own[line];
        own[line] = value;
        return before;
    }

    int copied(int checkOut, int section, int line, boolean base) {
        thereCopy(checkOut, section, line);
        Out out = now.outs.get(checkOut);
        return (base ? out.base : out.own).get(section)[line];
    }

    int conflicts(int checkOut) {
        there(now.outs.containsKey(checkOut));
        Out out = now.outs.get(checkOut);
        int conflicts = 0;
        for (int section : out.base.keySet()) {
            for (int line = 0; line < 6; line++) {
                int b = out.base.get(section)[line];
                int m = out.own.get(section)[line];
                int t = now.sections.get(section).lines[line];
                if (!out.held && m != b && t != b && t != m) {
                    conflicts++;
                }
            }
        }
        return conflicts;
    }

    int giveBack(int checkOut, int policy) {
        there(now.outs.containsKey(checkOut));
        inRange(policy >= 0 && policy <= 2);
        Out out = now.outs.get(checkOut);
        allowed(out.held || !heldOverlap(out.section));
        allowed(out.held || policy != 0 || conflicts(checkOut) == 0);
        save();
        TreeMap<Integer, int[]> wanted = new TreeMap<>();
        for (int section : out.base.keySet()) {
            int[] lines = now.sections.get(section).lines.clone();
            for (int line = 0; line < 6; line++) {
                int b = out.base.get(section)[line];
                int m = out.own.get(section)[line];
                int t = lines[line];
                if (out.held) {
                    lines[line] = m;
                } else if (m != b && (t == b || t == m || policy == 1)) {
                    lines[line] = m;
                }
            }
            if (!out.shared) {
                wanted.put(section, lines);
            }
        }
        int changed = change(wanted, out.user);
        now.outs.remove(checkOut);
        serve();
        return changed;
    }

    int checkOut(int checkOut, int what) {
        there(now.outs.containsKey(checkOut));
        inRange(what >= 0 && what <= 5);
        Out out = now.outs.get(checkOut);
        return new int[] {out.user, out.section, out.expiry, out.held ? 1 : 0,
            out.shared ? 1 : 0, out.edited()}[what];
    }

    int holders(int section) {
        there(now.sections.containsKey(section));
        int holders = 0;
        for (int number : now.outs.keySet()) {
            if (now.outs.get(number).held && covers(now.outs.get(number).section, section)) {
                holders += 1 << number;
            }
        }
        return holders;
    }

    int ifBroken(int checkOut) {
        there(now.outs.containsKey(checkOut));
        if (!now.outs.get(checkOut).held) {
            return 0;
        }
        State before = now.copy();
        lose(checkOut);
        int granted = serve();
        now = before;
        return granted;
    }

    int grantedAt(int user) {
        there(isUser(user));
        allowed(requestOf(user) != null);
        State before = now.copy();
        int answer = NONE;
        for (int i = 0; i < 2000 && answer == NONE; i++) {
            passOne();
            answer = requestOf(user) == null ? now.tick : NONE;
        }
        now = before;
        return answer;
    }

    int waitsFor(int user) {
        there(isUser(user));
        allowed(requestOf(user) != null);
        Request request = requestOf(user);
        int users = 0;
        for (int number : against(request)) {
            users |= 1 << now.outs.get(number).user;
        }
        for (Request before : now.waiting) {
            if (before == request) {
                break;
            }
            users |= blocks(before, request) ? 1 << before.user : 0;
        }
        return users;
    }

    int entries() {
        return now.entries.size();
    }

    int entry(int entry, int what) {
        there(entry >= 0 && entry < now.entries.size());
        inRange(what >= 0 && what <= 5);
        return now.entries.get(entry).fact(what);
    }

    int blame(int section, int line) {
        there(now.sections.containsKey(section) && isLine(line));
        int user = NONE;
        for (Entry entry : now.entries) {
            if (entry.section == section && entry.line == line) {
                user = entry.user;
            }
        }
        return user;
    }

    int lineAt(int section, int line, int tick) {
        there(now.sections.containsKey(section) && isLine(line));
        inRange(tick >= 0 && tick <= now.tick);
        for (Entry entry : now.entries) {
            if (entry.section == section && entry.line == line && entry.tick > tick) {
                return entry.before;
            }
        }
        return now.sections.get(section).lines[line];
    }

    int revert(int section, int tick) {
        there(now.sections.containsKey(section));
        inRange(tick >= 0 && tick <= now.tick);
        allowed(!heldOverlap(section));
        save();
        TreeMap<Integer, int[]> wanted = new TreeMap<>();
        for (int number : subtree(section)) {
            int[] lines = new int[6];
            for (int line = 0; line < 6; line++) {
                lines[line] = lineAt(number, line, tick);
            }
            wanted.put(number, lines);
        }
        return change(wanted, NONE);
    }

    int waiting() {
        return now.waiting.size();
    }

    int waitingAt(int index, int what) {
        there(index >= 0 && index < now.waiting.size());
        inRange(what >= 0 && what <= 3);
        Request r = now.waiting.get(index);
        return new int[] {r.user, r.section, r.ticks, r.shared ? 1 : 0}[what];
    }

    private void passOne() {
        now.tick++;
        for (int number : new ArrayList<>(now.outs.keySet())) {
            if (now.outs.get(number).held && now.outs.get(number).expiry == now.tick) {
                lose(number);
            }
        }
        serve();
        for (Out out : now.outs.values()) {
            now.heldTicks[out.user] += out.held ? 1 : 0;
        }
    }

    int pass(int ticks) {
        inRange(ticks >= 0 && ticks <= 1000);
        save();
        for (int i = 0; i < ticks; i++) {
            passOne();
        }
        return now.tick;
    }

    int useBits(int user) {
        there(isUser(user));
        float mean = now.tick == 0 ? 0.0f : (float) now.heldTicks[user] / (float) now.tick;
        return Float.floatToIntBits(mean);
    }

    int append(int value) {
        inRange(value >= 0 && value <= 127);
        allowed(text.length() < 120);
        text.append((char) value);
        return text.length();
    }

    int clearText() {
        int before = text.length();
        text.setLength(0);
        return before;
    }

    /** The position of the syntax error: the longest prefix that some text of orders begins with. */
    private int syntaxError() {
        String number = " [0-9]{1,4}";
        String[] whole = {"q(" + number + "){4};", "e(" + number + "){4};",
            "g(" + number + "){2};", "[dbp]" + number + ";"};
        java.util.regex.Pattern orders = java.util.regex.Pattern.compile(
                "((" + String.join(")|(", whole) + "))*");
        if (orders.matcher(text).matches()) {
            return NONE;
        }
        for (int length = 0; length <= text.length(); length++) {
            java.util.regex.Matcher matcher = orders.matcher(text.substring(0, length));
            if (!matcher.matches() && !matcher.hitEnd()) {
                return length - 1;
            }
        }
        return text.length();
    }

    int carryOut() {
        int error = syntaxError();
        if (error != NONE) {
            return -10 - error;
        }
        State before = now.copy();
        String[] orders = text.length() == 0 ? new String[0] : text.toString().split(";");
        saving = false;
        for (int i = 0; i < orders.length; i++) {
            try {
                carryOut(orders[i].split(" "));
            } catch (IndexOutOfBoundsException | IllegalArgumentException
                    | IllegalStateException refused) {
                now = before;
                saving = true;
                return -1000 - i;
            }
        }
        saving = true;
        push(before);
        return orders.length;
    }

    private void carryOut(String[] words) {
        int[] n = new int[5];
        for (int i = 1; i < words.length; i++) {
            n[i] = Integer.parseInt(words[i]);
        }
        switch (words[0]) {
            case "q" -> {
                inRange(n[4] <= 1);
                request(n[1], n[2], n[3], n[4] == 1);
            }
            case "e" -> edit(n[1], n[2], n[3], n[4]);
            case "g" -> giveBack(n[1], n[2]);
            case "d" -> discard(n[1]);
            case "b" -> breakUp(n[1]);
            default -> pass(n[1]);
        }
    }

    private String outlineOf(int section) {
        List<String> parts = new ArrayList<>();
        for (int child : now.sections.get(section).children) {
            parts.add(outlineOf(child));
        }
        return section + (parts.isEmpty() ? "" : "(" + String.join(",", parts) + ")");
    }

    int outline(int index) {
        inRange(index >= 0);
        String outline = outlineOf(0);
        return index < outline.length() ? outline.charAt(index) : NONE;
    }

    int undo() {
        allowed(!saved.isEmpty());
        now = saved.removeLast();
        return saved.size();
    }

    long digest() {
        List<Long> values = new ArrayList<>();
        values.add((long) now.tick);
        for (Section section : now.sections.values()) {
            values.add((long) section.number);
            values.add((long) section.parent);
            values.add((long) section.version);
            values.add((long) section.children.size());
            section.children.forEach(child -> values.add((long) child));
            for (int line : section.lines) {
                values.add((long) line);
            }
        }
        for (int number : now.outs.keySet()) {
            values.add((long) number);
            for (int what = 0; what < 5; what++) {
                values.add((long) checkOut(number, what));
            }
            for (int section : now.outs.get(number).base.keySet()) {
                for (int line = 0; line < 6; line++) {
                    values.add((long) copied(number, section, line, true));
                    values.add((long) copied(number, section, line, false));
                }
            }
        }
        values.add((long) now.waiting.size());
        for (int place = 0; place < now.waiting.size(); place++) {
            for (int what = 0; what < 4; what++) {
                values.add((long) waitingAt(place, what));
            }
        }
        for (long ticks : now.heldTicks) {
            values.add(ticks);
        }
        values.add((long) now.entries.size());
        for (int entry = 0; entry < now.entries.size(); entry++) {
            for (int what = 0; what < 6; what++) {
                values.add((long) entry(entry, what));
            }
        }
        values.add((long) text.length());
        values.add((long) saved.size());
        long hash = 2857;
        for (long value : values) {
            hash = 31 * hash + value;
        }
        return hash;
    }
}
