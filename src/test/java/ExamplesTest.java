/** The examples 1 to 6 of the document, call by call. */
final class ExamplesTest {
    private ExamplesTest() {
    }

    public static void main(String[] args) {
        Checks.test("example 1", ExamplesTest::aLeaseEnds);
        Checks.test("example 2", ExamplesTest::aConflict);
        Checks.test("example 3", ExamplesTest::anOutline);
        Checks.test("example 4", ExamplesTest::sharedAndExclusive);
        Checks.test("example 5", ExamplesTest::reverting);
        Checks.test("example 6", ExamplesTest::ordersFromAText);
        Checks.finish();
    }

    private static void aLeaseEnds() {
        SectionDesk desk = new SectionDesk();
        Checks.due("addSection(0)", desk.addSection(0), 1);
        Checks.due("addSection(1)", desk.addSection(1), 2);
        Checks.due("request(0, 1, 10, false)", desk.request(0, 1, 10, false), 0);
        Checks.due("edit(0, 2, 0, 50)", desk.edit(0, 2, 0, 50), 0);
        Checks.due("request(1, 2, 5, false)", desk.request(1, 2, 5, false), SectionDesk.NONE);
        Checks.due("grantedAt(1)", desk.grantedAt(1), 10);
        Checks.due("pass(10)", desk.pass(10), 10);
        Checks.due("holders(2)", desk.holders(2), 2);
        Checks.due("conflicts(0)", desk.conflicts(0), 0);
    }

    private static void aConflict() {
        SectionDesk desk = new SectionDesk();
        Checks.due("addSection(0)", desk.addSection(0), 1);
        Checks.due("request(0, 1, 3, false)", desk.request(0, 1, 3, false), 0);
        Checks.due("edit(0, 1, 0, 50)", desk.edit(0, 1, 0, 50), 0);
        Checks.due("breakUp(0)", desk.breakUp(0), 0);
        Checks.due("write(1, 0, 60)", desk.write(1, 0, 60), 0);
        Checks.due("conflicts(0)", desk.conflicts(0), 1);
        Checks.badState(desk, "giveBack(0, 0)", () -> desk.giveBack(0, 0));
        Checks.due("giveBack(0, 1)", desk.giveBack(0, 1), 1);
        Checks.due("line(1, 0)", desk.line(1, 0), 50);
        Checks.due("blame(1, 0)", desk.blame(1, 0), 0);
    }

    private static void anOutline() {
        SectionDesk desk = new SectionDesk();
        Checks.due("addSection(0)", desk.addSection(0), 1);
        Checks.due("addSection(0)", desk.addSection(0), 2);
        Checks.due("addSection(1)", desk.addSection(1), 3);
        Checks.due("outline(0)", desk.outline(0), 48);
        Checks.due("outline(1)", desk.outline(1), 40);
        Checks.due("outline(2)", desk.outline(2), 49);
        Checks.due("outline(4)", desk.outline(4), 51);
        Checks.due("moveSection(3, 2)", desk.moveSection(3, 2), 2);
    }

    private static void sharedAndExclusive() {
        SectionDesk desk = new SectionDesk();
        Checks.due("request(0, 0, 5, true)", desk.request(0, 0, 5, true), 0);
        Checks.due("request(1, 0, 5, true)", desk.request(1, 0, 5, true), 1);
        Checks.due("request(2, 0, 5, false)", desk.request(2, 0, 5, false), -1);
        Checks.due("waitsFor(2)", desk.waitsFor(2), 3);
        Checks.due("grantedAt(2)", desk.grantedAt(2), 5);
        Checks.due("holders(0)", desk.holders(0), 3);
    }

    private static void reverting() {
        SectionDesk desk = new SectionDesk();
        Checks.due("write(0, 0, 5)", desk.write(0, 0, 5), 0);
        Checks.due("pass(3)", desk.pass(3), 3);
        Checks.due("write(0, 0, 9)", desk.write(0, 0, 9), 5);
        Checks.due("lineAt(0, 0, 2)", desk.lineAt(0, 0, 2), 5);
        Checks.due("revert(0, 2)", desk.revert(0, 2), 1);
        Checks.due("line(0, 0)", desk.line(0, 0), 5);
        Checks.due("entries()", desk.entries(), 3);
    }

    private static void ordersFromAText() {
        SectionDesk desk = new SectionDesk();
        Checks.due("append(112)", desk.append(112), 1);
        Checks.due("append(32)", desk.append(32), 2);
        Checks.due("append(53)", desk.append(53), 3);
        Checks.due("carryOut()", desk.carryOut(), -13);
        Checks.due("append(59)", desk.append(59), 4);
        Checks.due("carryOut()", desk.carryOut(), 1);
        Checks.due("undo()", desk.undo(), 0);
        Checks.badValue(desk, "removeSection(0)", () -> desk.removeSection(0));
    }
}
