import java.util.ArrayList;
import java.util.List;
import java.util.Random;

/** Runs of calls, the same ones in every session, on SectionDesk and on PlainDesk side by side. */
final class ModelTest {
    /**
     * Each method with what its arguments are: S a section, N a new parent, U a user, C a check-out,
     * L a line, V a value, T a number of ticks, Q a short number of ticks, P a policy, B a boolean,
     * W what, I an index, K a past tick, Y a byte, O an index into the outline.
     */
    private static final String[] STRUCTURE = {"addSection S", "addSection S", "addSection S",
        "removeSection S", "moveSection S S", "sections", "section S W", "child S I", "outline O"};
    private static final String[] LOCKS = {"request U S T B", "request U S T B", "request U S Q B",
        "request U S Q B", "cancel U", "renew C T", "breakUp C", "discard C", "edit C S L V",
        "edit C S L V", "edit C S L V", "copied C S L B", "conflicts C", "giveBack C P",
        "giveBack C P", "checkOut C W", "holders S", "ifBroken C", "grantedAt U", "waitsFor U",
        "waiting", "waitingAt I W", "pass Q", "pass Q", "pass T", "useBits U"};
    private static final String[] TEXTS = {"write S L V", "write S L V", "line S L", "entries",
        "entry I W", "blame S L", "lineAt S L K", "revert S K", "undo", "append Y", "clearText"};

    private final Random random;
    private final PlainDesk plain = new PlainDesk();
    private final Target model = new Target(plain);
    private final Target tested = new Target(new SectionDesk());
    private final List<String> told = new ArrayList<>();

    private ModelTest(long seed) {
        random = new Random(seed);
    }

    public static void main(String[] args) {
        Checks.test("38 runs of all methods", () -> runs(1, 700, 1, 3, 2, 1));
        Checks.test("10-18 runs of check-outs", () -> runs(10001, 700, 0, 9, 1, 0));
        Checks.test("26-28 runs of changes", () -> runs(20001, 300, 0, 2, 9, 0));
        Checks.test("35 runs of orders", () -> runs(30001, 500, 0, 1, 1, 1));
        Checks.test("37 runs of undoing", () -> runs(40001, 200, 2, 2, 9, 0));
        Checks.test("wild arguments", () -> wildRuns(50001, 200));
        Checks.finish();
    }

    private static void runs(long from, int many, int structure, int locks, int texts, int orders) {
        for (long seed = from; seed < from + many && Checks.isFine(); seed++) {
            new ModelTest(seed).run(structure, locks, texts, orders);
        }
    }

    private void run(int structure, int locks, int texts, int orders) {
        int sections = random.nextInt(20);
        for (int i = 0; i < sections; i++) {
            compare("addSection S", false);
        }
        if (sections > 0 && random.nextInt(4) == 0) {
            holdMany();
        }
        if (texts > locks && random.nextInt(2) == 0) {
            changeMuch();
        }
        int all = structure + locks + texts + orders;
        while (tested.calls() < Target.MOST_CALLS - 125 && Checks.isFine()) {
            int pick = random.nextInt(all);
            if (pick < structure) {
                compare(oneOf(STRUCTURE), false);
            } else if (pick < structure + locks) {
                compare(oneOf(LOCKS), false);
            } else if (pick < structure + locks + texts) {
                compare(oneOf(TEXTS), false);
            } else {
                compareOrders();
            }
            if (random.nextInt(3) == 0) {
                compare("digest", false);
            }
        }
        compare("digest", false);
    }

    /** Many check-outs at once, so that their number stands against a request. */
    private void holdMany() {
        for (int i = 0; i < 40; i++) {
            compare("request U S T B", false);
        }
    }

    /** So many changes that the oldest entries are dropped. */
    private void changeMuch() {
        for (int i = 0; i < 210; i++) {
            compare("write S L V", false);
        }
    }

    private static void wildRuns(long from, int many) {
        for (long seed = from; seed < from + many && Checks.isFine(); seed++) {
            ModelTest test = new ModelTest(seed);
            while (test.tested.calls() < Target.MOST_CALLS - 1 && Checks.isFine()) {
                int pick = test.random.nextInt(3);
                String[] from3 = pick == 0 ? STRUCTURE : pick == 1 ? LOCKS : TEXTS;
                test.compare(test.oneOf(from3), test.random.nextInt(3) == 0);
            }
            test.compare("digest", false);
        }
    }

    private String oneOf(String[] calls) {
        return calls[random.nextInt(calls.length)];
    }

    private void compareOrders() {
        compareCall("clearText", List.of());
        String text = orders();
        for (int i = 0; i < text.length(); i++) {
            compareCall("append", List.of((int) text.charAt(i)));
        }
        compareCall("carryOut", List.of());
        compare("digest", false);
    }

    private String orders() {
        StringBuilder text = new StringBuilder();
        int orders = random.nextInt(6);
        for (int i = 0; i < orders; i++) {
            String kind = oneOf(new String[] {"qUSTX", "qUSQX", "qUSTX", "eCSLV", "gCP", "dC", "bC",
                "pQ", "pT"});
            text.append(kind.charAt(0));
            for (int k = 1; k < kind.length(); k++) {
                int number = Math.max(0, argument(kind.charAt(k)));
                String digits = Integer.toString(number);
                text.append(' ').append(random.nextInt(6) == 0 && digits.length() < 4 ? "0" : "");
                text.append(digits);
            }
            text.append(';');
        }
        if (text.length() > 0 && random.nextInt(4) == 0) {
            String signs = " 0;qgedbpx:/";
            char sign = signs.charAt(random.nextInt(signs.length()));
            text.setCharAt(random.nextInt(text.length()), sign);
        }
        if (random.nextInt(10) == 0) {
            text.setLength(random.nextInt(text.length() + 1));
        }
        return text.length() > 120 ? text.substring(0, 120) : text.toString();
    }

    private void compare(String call, boolean wild) {
        String[] words = call.split(" ");
        List<Object> arguments = new ArrayList<>();
        for (int i = 1; i < words.length; i++) {
            if (words[i].equals("B")) {
                arguments.add(random.nextBoolean());
            } else {
                arguments.add(wild && random.nextBoolean()
                        ? wildNumber() : argument(words[i].charAt(0)));
            }
        }
        compareCall(words[0], arguments);
    }

    private int wildNumber() {
        int[] wild = {Integer.MIN_VALUE, Integer.MAX_VALUE, -1, -2, 6, 7, 10, 20, 32, 33, 64, 120,
            150, 999, 1000, 1001, 1 << 30, -(1 << 30), Integer.MAX_VALUE / 6, 357913942};
        return wild[random.nextInt(wild.length)];
    }

    private int argument(char kind) {
        boolean edge = random.nextInt(40) == 0;
        switch (kind) {
            case 'S': return edge ? random.nextInt(22) - 1 : pickOf(plain.state().sections.keySet());
            case 'C': return edge ? random.nextInt(12) - 1 : pickOf(plain.state().outs.keySet());
            case 'U': return edge ? random.nextInt(8) - 1 : random.nextInt(6);
            case 'L': return edge ? random.nextInt(8) - 1 : random.nextInt(3);
            case 'V': return edge ? random.nextInt(1002) - 1 : random.nextInt(4);
            case 'T': return edge ? random.nextInt(1003) - 1 : 1 + random.nextInt(1000);
            case 'Q': return edge ? random.nextInt(2) : 1 + random.nextInt(8);
            case 'P': return edge ? random.nextInt(5) - 1 : random.nextInt(3);
            case 'X': return edge ? 2 : random.nextInt(2);
            case 'W': return random.nextInt(8) - 1;
            case 'I': return random.nextInt(edge ? 160 : 5) - (edge ? 2 : 0);
            case 'K': return edge ? plain.state().tick + random.nextInt(3) - 1
                    : random.nextInt(plain.state().tick + 1);
            case 'Y': return edge ? random.nextInt(130) - 1 : random.nextInt(128);
            default: return random.nextInt(70) - (edge ? 5 : 0);
        }
    }

    private int pickOf(java.util.Collection<Integer> numbers) {
        return numbers.isEmpty() ? random.nextInt(3)
                : new ArrayList<>(numbers).get(random.nextInt(numbers.size()));
    }

    private void compareCall(String name, List<Object> arguments) {
        String due = model.answer(name, arguments);
        String got = tested.answer(name, arguments);
        told.add(name + arguments + " = " + due);
        if (!due.equals(got)) {
            Checks.fail(String.join("; ", told) + "; but the answer was " + got);
        }
    }
}
