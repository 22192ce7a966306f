/** Promises 33 to 38: the order text, the outline, undoing and the digest. */
final class TextTest {
    private static final int NONE = SectionDesk.NONE;

    private TextTest() {
    }

    public static void main(String[] args) {
        Checks.test("33 append", TextTest::append);
        Checks.test("34 clearText", TextTest::clearText);
        Checks.test("35 carryOut", TextTest::carryOut);
        Checks.test("35 carryOut, each order", TextTest::eachOrder);
        Checks.test("35 carryOut with a syntax error", TextTest::syntaxErrors);
        Checks.test("35 carryOut with a wrong order", TextTest::wrongOrders);
        Checks.test("35 carryOut of shared requests", TextTest::sharedOrders);
        Checks.test("35 carryOut of a full text", TextTest::fullText);
        Checks.test("36 outline", TextTest::outline);
        Checks.test("37 undo", TextTest::undo);
        Checks.test("37 undo and the order text", TextTest::undoKeepsText);
        Checks.test("38 digest of a new object", TextTest::digestOfNew);
        Checks.test("38 digest", TextTest::digest);
        Checks.finish();
    }

    private static void append() {
        SectionDesk desk = new SectionDesk();
        Checks.due("append(0)", desk.append(0), 1);
        Checks.due("append(127)", desk.append(127), 2);
        Checks.badValue(desk, "append(128)", () -> desk.append(128));
        Checks.badValue(desk, "append(-1)", () -> desk.append(-1));
        for (int length = 3; length <= 120; length++) {
            Checks.due("append(59)", desk.append(59), length);
        }
        Checks.badState(desk, "append(59)", () -> desk.append(59));
        Checks.badValue(desk, "append(128) with 120 bytes", () -> desk.append(128));
        Checks.badState(desk, "undo(), append saves nothing", desk::undo);
    }

    private static void clearText() {
        SectionDesk desk = new SectionDesk();
        Checks.due("clearText()", desk.clearText(), 0);
        Checks.putText(desk, "p 5;");
        Checks.due("clearText()", desk.clearText(), 4);
        Checks.due("carryOut()", desk.carryOut(), 0);
        Checks.due("append(120)", desk.append(120), 1);
        Checks.due("carryOut()", desk.carryOut(), -10);
        Checks.due("undo() of the empty text", desk.undo(), 0);
    }

    private static int carryOut(SectionDesk desk, String text) {
        Checks.putText(desk, text);
        int answer = desk.carryOut();
        Checks.due("the text stays, clearText()", desk.clearText(), text.length());
        return answer;
    }

    private static void carryOut() {
        SectionDesk desk = new SectionDesk();
        desk.addSection(0);
        String text = "q 0 1 10 0;e 0 1 5 42;p 3;g 0 0;";
        Checks.due(text, carryOut(desk, text), 4);
        Checks.due("line(1, 5)", desk.line(1, 5), 42);
        Checks.due("pass(0)", desk.pass(0), 3);
        Checks.due("undo()", desk.undo(), 2);
        Checks.due("one state for all orders, undo()", desk.undo(), 1);
        Checks.due("line(1, 5)", desk.line(1, 5), 0);
        Checks.due("pass(0)", desk.pass(0), 0);
        Checks.putText(desk, "p 7;");
        Checks.due("carryOut()", desk.carryOut(), 1);
        Checks.due("carryOut() once more", desk.carryOut(), 1);
        Checks.due("pass(0)", desk.pass(0), 14);
    }

    private static void eachOrder() {
        SectionDesk desk = new SectionDesk();
        desk.addSection(0);
        desk.addSection(0);
        Checks.due("q", carryOut(desk, "q 3 1 0010 1;q 4 1 0010 0;q 2 2 5 0;"), 3);
        Checks.due("checkOut(0, 4)", desk.checkOut(0, 4), 1);
        Checks.due("checkOut(0, 0)", desk.checkOut(0, 0), 3);
        Checks.due("waitingAt(0, 0)", desk.waitingAt(0, 0), 4);
        Checks.due("waitingAt(0, 2)", desk.waitingAt(0, 2), 10);
        Checks.due("e", carryOut(desk, "e 1 2 3 0999;"), 1);
        Checks.due("copied(1, 2, 3, false)", desk.copied(1, 2, 3, false), 999);
        Checks.due("b", carryOut(desk, "b 1;"), 1);
        Checks.due("checkOut(1, 3)", desk.checkOut(1, 3), 0);
        Checks.due("d", carryOut(desk, "d 0;"), 1);
        Checks.due("the line was served", desk.checkOut(0, 0), 4);
        Checks.due("p", carryOut(desk, "p 0009;p 0;"), 2);
        Checks.due("checkOut(0, 3)", desk.checkOut(0, 3), 1);
        desk.write(2, 3, 1);
        Checks.due("g", carryOut(desk, "g 1 2;"), 1);
        Checks.due("line(2, 3)", desk.line(2, 3), 1);
        Checks.due("p", carryOut(desk, "p 1;"), 1);
        Checks.due("checkOut(0, 3)", desk.checkOut(0, 3), 0);
    }

    private static void syntaxErrors() {
        SectionDesk desk = new SectionDesk();
        String[] texts = {"x", "p", "p ", "p 5", "p  5;", "p5;", "p 12345;", "p 1234", "p 5 ;",
            "p 5 6;", " p 5;", "p 5; p 5;", "p 5;;", ";", "q 0 0 5;", "q 0 0 5 0 0;", "q 0 0 5 0",
            "e 0 0 5;", "g 0;", "g 0 0 0;", "d;", "b 0 0;", "p 5x;", "p -5;", "P 5;", "p 5;p",
            "p 00000;", "p 5:", "p /", "p :", "q 0 0 5 ;", "\t"};
        int[] at = {0, 1, 2, 3, 2, 1, 6, 6, 3, 3, 0, 4, 4, 0, 7, 9, 9, 7, 3, 5, 1, 3, 3, 2, 0, 5,
            6, 3, 2, 2, 8, 0};
        long before = desk.digest();
        for (int i = 0; i < texts.length; i++) {
            Checks.due(texts[i], carryOut(desk, texts[i]), -10 - at[i]);
        }
        Checks.due("digest()", desk.digest(), before);
    }

    private static void wrongOrders() {
        SectionDesk desk = new SectionDesk();
        desk.addSection(0);
        desk.request(0, 1, 10, true);
        long before = desk.digest();
        String[] texts = {"q 0 1 5 0;", "q 6 1 5 0;", "q 1 2 5 0;", "q 1 1 0 0;", "q 1 1 1001 0;",
            "q 1 1 5 2;", "q 1 1 5 9999;", "e 1 1 0 0;", "e 0 1 6 0;", "e 0 1 0 1000;",
            "e 0 1 0 0;", "g 1 0;", "g 0 3;", "d 1;", "d 10;", "b 1;", "p 1001;", "p 9999;",
            "p 5;b 0;b 0;", "p 10;d 0;", "q 1 0 5 0;q 1 1 5 1;", "d 0;q 1 0 5 0;e 0 0 0 7;p 2000;"};
        int[] at = {0, 0, 0, 0, 0, 0, 0, 0, 0, 0, 0, 0, 0, 0, 0, 0, 0, 0, 2, 1, 1, 3};
        for (int i = 0; i < texts.length; i++) {
            Checks.due(texts[i], carryOut(desk, texts[i]), -1000 - at[i]);
            Checks.due("digest() after " + texts[i], desk.digest(), before);
        }
        Checks.due("a syntax error comes first", carryOut(desk, "d 1;p 5"), -17);
    }

    /** Whether a request is shared matters for what the user may hold already. */
    private static void sharedOrders() {
        SectionDesk desk = new SectionDesk();
        desk.addSection(0);
        desk.request(0, 1, 10, true);
        Checks.due("shared above his own", carryOut(desk, "q 0 0 5 1;"), -1000);
        Checks.due("exclusive above his own", carryOut(desk, "q 0 0 5 0;"), 1);
        Checks.due("checkOut(0, 1)", desk.checkOut(0, 1), 0);
        Checks.due("checkOut(0, 4)", desk.checkOut(0, 4), 0);
    }

    private static void fullText() {
        SectionDesk desk = new SectionDesk();
        StringBuilder text = new StringBuilder();
        for (int i = 0; i < 30; i++) {
            text.append("p ").append(i % 10).append(';');
        }
        Checks.due("30 orders", carryOut(desk, text.toString()), 30);
        Checks.due("pass(0)", desk.pass(0), 135);
        text.setCharAt(119, '0');
        Checks.due("an end that comes too early", carryOut(desk, text.toString()), -130);
        text.setCharAt(119, 'x');
        Checks.due("the last byte", carryOut(desk, text.toString()), -129);
        text.setLength(116);
        text.append("d 0;");
        Checks.due("the last order", carryOut(desk, text.toString()), -1029);
    }

    private static void outline() {
        SectionDesk desk = new SectionDesk();
        Checks.same("outline", Checks.outline(desk), "0");
        for (int number = 1; number < 20; number++) {
            desk.addSection(number < 11 ? number - 1 : 10);
        }
        Checks.same("outline", Checks.outline(desk),
                "0(1(2(3(4(5(6(7(8(9(10(11,12,13,14,15,16,17,18,19)))))))))))");
        Checks.due("outline(0)", desk.outline(0), '0');
        Checks.due("outline(1000)", desk.outline(1000), NONE);
        Checks.due("outline of the greatest index", desk.outline(Integer.MAX_VALUE), NONE);
        Checks.badValue(desk, "outline(-1)", () -> desk.outline(-1));
        desk.moveSection(11, 0);
        desk.moveSection(2, 11);
        Checks.same("outline", Checks.outline(desk),
                "0(1,11(2(3(4(5(6(7(8(9(10(12,13,14,15,16,17,18,19)))))))))))");
        SectionDesk deep = new SectionDesk();
        StringBuilder line = new StringBuilder("0");
        for (int number = 1; number < 20; number++) {
            deep.addSection(number - 1);
            line.append('(').append(number);
        }
        line.append(")".repeat(19));
        Checks.same("outline", Checks.outline(deep), line.toString());
    }

    private static void undo() {
        SectionDesk desk = new SectionDesk();
        Checks.badState(desk, "undo()", desk::undo);
        for (int value = 1; value <= 6; value++) {
            desk.write(0, 0, value);
        }
        for (int left = 3; left >= 0; left--) {
            Checks.due("undo()", desk.undo(), left);
            Checks.due("line(0, 0)", desk.line(0, 0), left + 2);
        }
        Checks.badState(desk, "undo()", desk::undo);
        desk.request(0, 0, 5, false);
        long held = desk.digest();
        desk.edit(0, 0, 0, 9);
        desk.pass(5);
        desk.write(0, 1, 4);
        Checks.due("undo()", desk.undo(), 3);
        Checks.due("undo()", desk.undo(), 2);
        Checks.due("undo()", desk.undo(), 1);
        Checks.due("digest()", desk.digest(), held);
        Checks.due("copied(0, 0, 0, false)", desk.copied(0, 0, 0, false), 2);
    }

    private static void undoKeepsText() {
        SectionDesk desk = new SectionDesk();
        desk.addSection(0);
        Checks.putText(desk, "p 1;");
        Checks.due("undo()", desk.undo(), 0);
        Checks.due("carryOut()", desk.carryOut(), 1);
        desk.clearText();
        Checks.due("undo()", desk.undo(), 0);
        Checks.due("clearText()", desk.clearText(), 0);
    }

    private static long hash(int... values) {
        long hash = 2857;
        for (int value : values) {
            hash = 31 * hash + value;
        }
        return hash;
    }

    private static void digestOfNew() {
        SectionDesk desk = new SectionDesk();
        Checks.due("digest()", desk.digest(), hash(0, 0, -1, 0, 0, 0, 0, 0, 0, 0, 0, 0,
                0, 0, 0, 0, 0, 0, 0, 0, 0));
        desk.append(59);
        desk.pass(2);
        Checks.due("digest()", desk.digest(), hash(2, 0, -1, 0, 0, 0, 0, 0, 0, 0, 0, 0,
                0, 0, 0, 0, 0, 0, 0, 1, 1));
    }

    private static void digest() {
        SectionDesk desk = new SectionDesk();
        desk.addSection(0);
        desk.addSection(0);
        desk.moveSection(1, 2);
        desk.moveSection(1, 0);
        desk.write(1, 3, 7);
        desk.request(4, 1, 9, false);
        desk.request(5, 2, 8, true);
        desk.edit(0, 1, 2, 6);
        desk.request(3, 0, 5, true);
        desk.pass(2);
        Checks.due("digest()", desk.digest(), hash(2,
                0, -1, 0, 2, 2, 1, 0, 0, 0, 0, 0, 0,
                1, 0, 1, 0, 0, 0, 0, 7, 0, 0,
                2, 0, 0, 0, 0, 0, 0, 0, 0, 0,
                0, 4, 1, 9, 1, 0, 0, 0, 0, 0, 0, 6, 7, 7, 0, 0, 0, 0,
                1, 5, 2, 8, 1, 1, 0, 0, 0, 0, 0, 0, 0, 0, 0, 0, 0, 0,
                1, 3, 0, 5, 1,
                0, 0, 0, 0, 2, 2,
                1, 0, 1, 3, 0, 7, -1,
                0, 4));
    }
}
