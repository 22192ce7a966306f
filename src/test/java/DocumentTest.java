/** Promises 1 to 9: the sections and their lines. */
final class DocumentTest {
    private DocumentTest() {
    }

    public static void main(String[] args) {
        Checks.test("1 a new object", DocumentTest::newObject);
        Checks.test("2 addSection", DocumentTest::addSection);
        Checks.test("2 addSection where it is covered", DocumentTest::addSectionCovered);
        Checks.test("3 removeSection", DocumentTest::removeSection);
        Checks.test("3 removeSection where it overlaps", DocumentTest::removeSectionClaimed);
        Checks.test("4 moveSection", DocumentTest::moveSection);
        Checks.test("4 moveSection where it overlaps", DocumentTest::moveSectionClaimed);
        Checks.test("5 sections", DocumentTest::sections);
        Checks.test("6 section", DocumentTest::section);
        Checks.test("7 child", DocumentTest::child);
        Checks.test("8 line", DocumentTest::line);
        Checks.test("9 write", DocumentTest::write);
        Checks.test("9 write where it is held", DocumentTest::writeHeld);
        Checks.finish();
    }

    private static void newObject() {
        SectionDesk desk = new SectionDesk();
        Checks.due("NONE", SectionDesk.NONE, -1);
        Checks.due("sections()", desk.sections(), 1);
        Checks.due("section(0, 0)", desk.section(0, 0), -1);
        for (int what = 1; what < 5; what++) {
            Checks.due("section(0, what)", desk.section(0, what), 0);
        }
        for (int line = 0; line < 6; line++) {
            Checks.due("line(0, line)", desk.line(0, line), 0);
            Checks.due("blame(0, line)", desk.blame(0, line), -1);
        }
        Checks.due("holders(0)", desk.holders(0), 0);
        Checks.due("entries()", desk.entries(), 0);
        Checks.due("waiting()", desk.waiting(), 0);
        Checks.due("useBits(5)", desk.useBits(5), 0);
        Checks.due("clearText()", desk.clearText(), 0);
        Checks.badState(desk, "undo()", desk::undo);
        Checks.due("pass(0)", desk.pass(0), 0);
    }

    private static void addSection() {
        SectionDesk desk = Checks.fiveSections();
        Checks.same("outline", Checks.outline(desk), "0(1(2,3),4)");
        desk.write(2, 0, 7);
        desk.removeSection(2);
        Checks.due("addSection(4) takes the lowest free number", desk.addSection(4), 2);
        Checks.due("line(2, 0) of the new section", desk.line(2, 0), 0);
        Checks.due("section(2, 3) of the new section", desk.section(2, 3), 0);
        Checks.noSuch(desk, "addSection(-1)", () -> desk.addSection(-1));
        Checks.noSuch(desk, "addSection(5)", () -> desk.addSection(5));
        Checks.noSuch(desk, "addSection(20)", () -> desk.addSection(20));
        for (int number = 5; number < 20; number++) {
            Checks.due("addSection(0)", desk.addSection(0), number);
        }
        Checks.badState(desk, "addSection(0) with 20 sections", () -> desk.addSection(0));
        Checks.noSuch(desk, "addSection(20) with 20 sections", () -> desk.addSection(20));
        Checks.due("undo()", desk.undo(), 3);
        Checks.due("sections() after undo()", desk.sections(), 19);
    }

    private static void addSectionCovered() {
        SectionDesk desk = Checks.fiveSections();
        desk.request(0, 2, 5, true);
        Checks.badState(desk, "addSection(2), held", () -> desk.addSection(2));
        Checks.due("addSection(1), above the held one", desk.addSection(1), 5);
        desk.request(1, 1, 5, false);
        Checks.badState(desk, "addSection(1), waited for", () -> desk.addSection(1));
        Checks.badState(desk, "addSection(3), below what is waited for", () -> desk.addSection(3));
        desk.cancel(1);
        Checks.due("addSection(3)", desk.addSection(3), 6);
        desk.request(1, 4, 2, false);
        desk.pass(2);
        Checks.badState(desk, "addSection(4), lost", () -> desk.addSection(4));
        desk.discard(1);
        Checks.due("addSection(4)", desk.addSection(4), 7);
    }

    private static void removeSection() {
        SectionDesk desk = Checks.fiveSections();
        desk.write(4, 1, 8);
        desk.write(3, 1, 9);
        desk.write(2, 5, 9);
        Checks.due("removeSection(1)", desk.removeSection(1), 3);
        Checks.same("outline", Checks.outline(desk), "0(4)");
        Checks.due("entries()", desk.entries(), 1);
        Checks.due("entry(0, 1)", desk.entry(0, 1), 4);
        Checks.noSuch(desk, "removeSection(1)", () -> desk.removeSection(1));
        Checks.noSuch(desk, "removeSection(-1)", () -> desk.removeSection(-1));
        Checks.badValue(desk, "removeSection(0)", () -> desk.removeSection(0));
        Checks.due("undo()", desk.undo(), 3);
        Checks.due("entries() after undo()", desk.entries(), 3);
        Checks.same("outline after undo()", Checks.outline(desk), "0(1(2,3),4)");
    }

    private static void removeSectionClaimed() {
        SectionDesk desk = Checks.fiveSections();
        desk.request(0, 2, 1, false);
        Checks.badState(desk, "removeSection(2)", () -> desk.removeSection(2));
        Checks.badState(desk, "removeSection(1)", () -> desk.removeSection(1));
        Checks.badValue(desk, "removeSection(0)", () -> desk.removeSection(0));
        Checks.due("removeSection(3)", desk.removeSection(3), 1);
        desk.request(1, 1, 9, false);
        Checks.due("removeSection(4)", desk.removeSection(4), 1);
        desk.discard(0);
        desk.giveBack(0, 0);
        Checks.due("removeSection(1)", desk.removeSection(1), 2);
        desk.addSection(0);
        desk.request(2, 0, 3, true);
        desk.request(3, 1, 3, false);
        desk.breakUp(0);
        desk.breakUp(0);
        Checks.badState(desk, "removeSection(1), lost", () -> desk.removeSection(1));
    }

    private static void moveSection() {
        SectionDesk desk = Checks.fiveSections();
        Checks.due("moveSection(2, 1)", desk.moveSection(2, 1), 2);
        Checks.same("outline", Checks.outline(desk), "0(1(3,2),4)");
        Checks.due("moveSection(1, 4)", desk.moveSection(1, 4), 2);
        Checks.same("outline", Checks.outline(desk), "0(4(1(3,2)))");
        Checks.due("section(2, 2)", desk.section(2, 2), 3);
        Checks.due("section(4, 4)", desk.section(4, 4), 3);
        Checks.badValue(desk, "moveSection(4, 2)", () -> desk.moveSection(4, 2));
        Checks.badValue(desk, "moveSection(4, 4)", () -> desk.moveSection(4, 4));
        Checks.badValue(desk, "moveSection(0, 4)", () -> desk.moveSection(0, 4));
        Checks.noSuch(desk, "moveSection(0, 5)", () -> desk.moveSection(0, 5));
        Checks.noSuch(desk, "moveSection(5, 0)", () -> desk.moveSection(5, 0));
        Checks.noSuch(desk, "moveSection(-1, 0)", () -> desk.moveSection(-1, 0));
        Checks.due("undo()", desk.undo(), 3);
        Checks.same("outline after undo()", Checks.outline(desk), "0(1(3,2),4)");
    }

    private static void moveSectionClaimed() {
        SectionDesk desk = Checks.fiveSections();
        desk.request(0, 2, 5, true);
        Checks.badState(desk, "moveSection(2, 0)", () -> desk.moveSection(2, 0));
        Checks.badState(desk, "moveSection(1, 4)", () -> desk.moveSection(1, 4));
        Checks.badState(desk, "moveSection(4, 2)", () -> desk.moveSection(4, 2));
        Checks.badValue(desk, "moveSection(1, 2)", () -> desk.moveSection(1, 2));
        Checks.due("moveSection(4, 1)", desk.moveSection(4, 1), 2);
        desk.request(1, 1, 5, false);
        Checks.badState(desk, "moveSection(3, 0), waited for", () -> desk.moveSection(3, 0));
        desk.cancel(1);
        Checks.due("moveSection(3, 0)", desk.moveSection(3, 0), 1);
    }

    private static void sections() {
        SectionDesk desk = new SectionDesk();
        for (int number = 1; number < 20; number++) {
            desk.addSection(number - 1);
            Checks.due("sections()", desk.sections(), number + 1);
        }
        desk.removeSection(10);
        Checks.due("sections()", desk.sections(), 10);
    }

    private static void section() {
        SectionDesk desk = Checks.fiveSections();
        desk.write(1, 0, 5);
        desk.write(1, 0, 5);
        desk.write(1, 3, 5);
        int[] due = {0, 2, 1, 2, 2};
        for (int what = 0; what < 5; what++) {
            Checks.due("section(1, " + what + ")", desk.section(1, what), due[what]);
        }
        Checks.due("section(0, 1)", desk.section(0, 1), 2);
        Checks.due("section(0, 4)", desk.section(0, 4), 4);
        Checks.due("section(3, 0)", desk.section(3, 0), 1);
        Checks.noSuch(desk, "section(5, 5)", () -> desk.section(5, 5));
        Checks.noSuch(desk, "section(-1, 0)", () -> desk.section(-1, 0));
        Checks.noSuch(desk, "section(32, 0)", () -> desk.section(32, 0));
        Checks.badValue(desk, "section(0, 5)", () -> desk.section(0, 5));
        Checks.badValue(desk, "section(0, -1)", () -> desk.section(0, -1));
    }

    private static void child() {
        SectionDesk desk = Checks.fiveSections();
        Checks.due("child(0, 0)", desk.child(0, 0), 1);
        Checks.due("child(0, 1)", desk.child(0, 1), 4);
        Checks.due("child(1, 1)", desk.child(1, 1), 3);
        Checks.noSuch(desk, "child(0, 2)", () -> desk.child(0, 2));
        Checks.noSuch(desk, "child(0, -1)", () -> desk.child(0, -1));
        Checks.noSuch(desk, "child(2, 0)", () -> desk.child(2, 0));
        Checks.noSuch(desk, "child(5, 0)", () -> desk.child(5, 0));
        Checks.noSuch(desk, "child(-1, 0), the parent of the root", () -> desk.child(-1, 0));
    }

    private static void line() {
        SectionDesk desk = Checks.fiveSections();
        desk.write(3, 5, 999);
        Checks.due("line(3, 5)", desk.line(3, 5), 999);
        Checks.due("line(3, 4)", desk.line(3, 4), 0);
        Checks.due("line(4, 0)", desk.line(4, 0), 0);
        Checks.noSuch(desk, "line(3, 6)", () -> desk.line(3, 6));
        Checks.noSuch(desk, "line(3, -1)", () -> desk.line(3, -1));
        Checks.noSuch(desk, "line(5, 0)", () -> desk.line(5, 0));
        Checks.noSuch(desk, "line(-1, 6)", () -> desk.line(-1, 6));
    }

    private static void write() {
        SectionDesk desk = Checks.fiveSections();
        Checks.due("write(2, 0, 999)", desk.write(2, 0, 999), 0);
        Checks.due("write(2, 0, 0)", desk.write(2, 0, 0), 999);
        Checks.due("section(2, 3)", desk.section(2, 3), 2);
        Checks.due("entries()", desk.entries(), 2);
        Checks.due("write(2, 0, 0), the same value", desk.write(2, 0, 0), 0);
        Checks.due("section(2, 3)", desk.section(2, 3), 2);
        Checks.due("entries()", desk.entries(), 2);
        Checks.due("undo() of what changed nothing", desk.undo(), 3);
        Checks.due("line(2, 0)", desk.line(2, 0), 0);
        Checks.due("undo()", desk.undo(), 2);
        Checks.due("line(2, 0)", desk.line(2, 0), 999);
        Checks.badValue(desk, "write(2, 0, 1000)", () -> desk.write(2, 0, 1000));
        Checks.badValue(desk, "write(2, 0, -1)", () -> desk.write(2, 0, -1));
        Checks.noSuch(desk, "write(2, 6, -1)", () -> desk.write(2, 6, -1));
        Checks.noSuch(desk, "write(5, 0, 0)", () -> desk.write(5, 0, 0));
    }

    private static void writeHeld() {
        SectionDesk desk = Checks.fiveSections();
        desk.request(0, 1, 4, true);
        Checks.badState(desk, "write(1, 0, 5)", () -> desk.write(1, 0, 5));
        Checks.badState(desk, "write(2, 0, 5)", () -> desk.write(2, 0, 5));
        Checks.badValue(desk, "write(2, 0, 1000)", () -> desk.write(2, 0, 1000));
        Checks.due("write(0, 0, 5), above the held one", desk.write(0, 0, 5), 0);
        desk.pass(4);
        Checks.due("write(2, 0, 5)", desk.write(2, 0, 5), 0);
        desk.request(0, 1, 4, false);
        desk.request(2, 2, 4, false);
        Checks.badState(desk, "write(3, 0, 5)", () -> desk.write(3, 0, 5));
        desk.cancel(2);
        desk.breakUp(0);
        Checks.due("write(3, 0, 5), covered by a lost one", desk.write(3, 0, 5), 0);
    }
}
