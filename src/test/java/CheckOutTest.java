/** Promises 10 to 20: requests, working copies and returning. */
final class CheckOutTest {
    private static final int NONE = SectionDesk.NONE;

    private CheckOutTest() {
    }

    public static void main(String[] args) {
        Checks.test("10 request", CheckOutTest::request);
        Checks.test("10 request that is refused", CheckOutTest::requestRefused);
        Checks.test("10 request that waits", CheckOutTest::requestWaits);
        Checks.test("10 request that absorbs", CheckOutTest::requestAbsorbs);
        Checks.test("10 request with ten check-outs", CheckOutTest::requestWithTen);
        Checks.test("10 absorbing does not serve the line", CheckOutTest::absorbingServesNot);
        Checks.test("11 cancel", CheckOutTest::cancel);
        Checks.test("12 renew", CheckOutTest::renew);
        Checks.test("13 breakUp", CheckOutTest::breakUp);
        Checks.test("14 discard", CheckOutTest::discard);
        Checks.test("15 edit", CheckOutTest::edit);
        Checks.test("16 copied", CheckOutTest::copied);
        Checks.test("17 conflicts", CheckOutTest::conflicts);
        Checks.test("18 giveBack of a held one", CheckOutTest::giveBackHeld);
        Checks.test("18 giveBack of a lost one", CheckOutTest::giveBackLost);
        Checks.test("18 giveBack that is refused", CheckOutTest::giveBackRefused);
        Checks.test("19 checkOut", CheckOutTest::checkOut);
        Checks.test("20 holders", CheckOutTest::holders);
        Checks.finish();
    }

    /** A root with many children. */
    private static SectionDesk flat(int children) {
        SectionDesk desk = new SectionDesk();
        for (int i = 0; i < children; i++) {
            desk.addSection(0);
        }
        return desk;
    }

    private static void request() {
        SectionDesk desk = Checks.fiveSections();
        Checks.due("request(0, 2, 1, false)", desk.request(0, 2, 1, false), 0);
        Checks.due("request(0, 3, 1000, false)", desk.request(0, 3, 1000, false), 1);
        Checks.due("request(5, 4, 7, true)", desk.request(5, 4, 7, true), 2);
        Checks.due("request(4, 4, 7, true)", desk.request(4, 4, 7, true), 3);
        Checks.due("checkOut(1, 2)", desk.checkOut(1, 2), 1000);
        desk.discard(1);
        Checks.due("request(2, 3, 7, true)", desk.request(2, 3, 7, true), 1);
        Checks.due("undo()", desk.undo(), 3);
        Checks.due("holders(3)", desk.holders(3), 0);
        Checks.due("waiting()", desk.waiting(), 0);
    }

    private static void requestRefused() {
        SectionDesk desk = Checks.fiveSections();
        Checks.noSuch(desk, "user -1", () -> desk.request(-1, 0, 1, false));
        Checks.noSuch(desk, "user 6", () -> desk.request(6, 0, 0, false));
        Checks.noSuch(desk, "section 5", () -> desk.request(0, 5, 0, false));
        Checks.badValue(desk, "ticks 0", () -> desk.request(0, 0, 0, false));
        Checks.badValue(desk, "ticks 1001", () -> desk.request(0, 0, 1001, true));
        desk.request(0, 1, 9, false);
        Checks.badState(desk, "the same section", () -> desk.request(0, 1, 9, false));
        Checks.badState(desk, "below it", () -> desk.request(0, 2, 9, false));
        Checks.badState(desk, "below it, shared", () -> desk.request(0, 2, 9, true));
        Checks.badState(desk, "above it, shared", () -> desk.request(0, 0, 9, true));
        Checks.badValue(desk, "ticks first", () -> desk.request(0, 1, 1001, false));
        Checks.due("above it, exclusive", desk.request(0, 0, 9, false), 0);
        desk.breakUp(0);
        Checks.due("a lost one does not count", desk.request(0, 2, 9, false), 1);
        desk.request(1, 1, 9, false);
        Checks.badState(desk, "a second request", () -> desk.request(1, 4, 9, false));
        Checks.due("another user", desk.request(2, 4, 9, false), 2);
    }

    private static void requestWaits() {
        SectionDesk desk = Checks.fiveSections();
        desk.request(0, 2, 5, false);
        Checks.due("exclusive above", desk.request(1, 1, 5, false), NONE);
        Checks.due("blocked by the waiting one", desk.request(2, 3, 5, true), NONE);
        Checks.due("beside them", desk.request(3, 4, 5, true), 1);
        Checks.due("shared, over everything", desk.request(4, 0, 5, true), NONE);
        Checks.due("shared, blocked by no shared one", desk.request(5, 4, 5, true), 2);
        Checks.due("waiting()", desk.waiting(), 3);
        Checks.due("pass(5)", desk.pass(5), 5);
        Checks.due("the first one is granted", desk.holders(1), 2);
        Checks.due("waiting()", desk.waiting(), 2);
        Checks.due("pass(5)", desk.pass(5), 10);
        Checks.due("both shared ones are granted", desk.waiting(), 0);
    }

    private static void requestAbsorbs() {
        SectionDesk desk = Checks.fiveSections();
        desk.write(2, 0, 1);
        desk.request(0, 2, 5, false);
        desk.request(0, 3, 5, true);
        desk.request(0, 4, 5, false);
        desk.edit(0, 2, 0, 7);
        desk.edit(2, 4, 1, 8);
        Checks.due("request(0, 1, 9, false)", desk.request(0, 1, 9, false), 0);
        Checks.due("checkOut(0, 1)", desk.checkOut(0, 1), 1);
        Checks.due("checkOut(0, 2)", desk.checkOut(0, 2), 9);
        Checks.due("copied(0, 2, 0, false)", desk.copied(0, 2, 0, false), 7);
        Checks.due("copied(0, 2, 0, true)", desk.copied(0, 2, 0, true), 1);
        Checks.due("checkOut(0, 5)", desk.checkOut(0, 5), 1);
        Checks.noSuch(desk, "checkOut(1, 0)", () -> desk.checkOut(1, 0));
        Checks.due("checkOut(2, 1) stays", desk.checkOut(2, 1), 4);
        Checks.due("request(0, 0, 9, false)", desk.request(0, 0, 9, false), 0);
        Checks.due("checkOut(0, 5)", desk.checkOut(0, 5), 2);
        Checks.due("copied(0, 4, 1, false)", desk.copied(0, 4, 1, false), 8);
        Checks.due("giveBack(0, 0)", desk.giveBack(0, 0), 2);
        Checks.due("line(2, 0)", desk.line(2, 0), 7);
        Checks.due("line(4, 1)", desk.line(4, 1), 8);
        desk.request(1, 2, 5, false);
        desk.edit(0, 2, 5, 3);
        desk.breakUp(0);
        Checks.due("a lost one is not absorbed", desk.request(1, 1, 5, false), 1);
        Checks.due("checkOut(1, 5)", desk.checkOut(1, 5), 0);
        Checks.due("checkOut(0, 5)", desk.checkOut(0, 5), 1);
    }

    private static void requestWithTen() {
        SectionDesk desk = flat(12);
        for (int number = 0; number < 10; number++) {
            Checks.due("request", desk.request(number % 5, 1 + number, 5, number > 5), number);
        }
        Checks.due("an eleventh waits", desk.request(5, 11, 50, true), NONE);
        Checks.due("waitsFor(5)", desk.waitsFor(5), 0);
        Checks.due("ifBroken(0), which stays as a lost one", desk.ifBroken(0), 0);
        Checks.due("ifBroken(9), which is shared", desk.ifBroken(9), 1);
        Checks.due("grantedAt(5)", desk.grantedAt(5), 5);
        desk.pass(5);
        Checks.due("it takes the lowest free number", desk.checkOut(6, 1), 11);
        Checks.due("holders(1)", desk.holders(1), 0);
        Checks.due("holders(11)", desk.holders(11), 64);
        desk.request(0, 1, 5, false);
        desk.request(1, 2, 5, false);
        desk.request(2, 3, 5, false);
        Checks.due("ten again", desk.request(3, 12, 5, false), NONE);
        Checks.due("lost ones count", desk.grantedAt(3), 55);
        Checks.due("discard(5)", desk.discard(5), 0);
        Checks.due("checkOut(5, 1)", desk.checkOut(5, 1), 12);
        Checks.due("checkOut(5, 2)", desk.checkOut(5, 2), 10);
    }

    private static void absorbingServesNot() {
        SectionDesk desk = flat(14);
        desk.moveSection(2, 1);
        desk.moveSection(3, 1);
        for (int number = 0; number < 10; number++) {
            desk.request(number < 2 ? 0 : 1 + number % 2, 2 + number, 50, false);
        }
        Checks.due("an eleventh waits", desk.request(5, 12, 50, false), NONE);
        Checks.due("two are absorbed", desk.request(0, 1, 50, false), 0);
        Checks.due("the line was not served", desk.waiting(), 1);
        Checks.due("waitsFor(5)", desk.waitsFor(5), 0);
        Checks.due("grantedAt(5)", desk.grantedAt(5), 1);
        Checks.due("pass(0)", desk.pass(0), 0);
        Checks.due("pass(0) does not serve it either", desk.waiting(), 1);
        Checks.due("ifBroken(5) counts whatever is granted", desk.ifBroken(5), 1);
        Checks.due("pass(1)", desk.pass(1), 1);
        Checks.due("checkOut(1, 1)", desk.checkOut(1, 1), 12);
        Checks.due("checkOut(1, 2)", desk.checkOut(1, 2), 51);
    }

    private static void cancel() {
        SectionDesk desk = Checks.fiveSections();
        desk.request(0, 2, 5, true);
        desk.request(1, 1, 5, false);
        desk.request(2, 3, 5, false);
        desk.request(3, 2, 5, false);
        Checks.due("cancel(1)", desk.cancel(1), 1);
        Checks.due("the line was served", desk.holders(3), 2);
        Checks.badState(desk, "cancel(1)", () -> desk.cancel(1));
        Checks.badState(desk, "cancel(5)", () -> desk.cancel(5));
        Checks.noSuch(desk, "cancel(6)", () -> desk.cancel(6));
        Checks.noSuch(desk, "cancel(-1)", () -> desk.cancel(-1));
        Checks.due("cancel(3)", desk.cancel(3), 0);
        Checks.due("undo()", desk.undo(), 3);
        Checks.due("waiting()", desk.waiting(), 1);
    }

    private static void renew() {
        SectionDesk desk = Checks.fiveSections();
        desk.request(0, 2, 5, true);
        desk.request(1, 4, 5, false);
        desk.pass(3);
        Checks.due("renew(0, 1)", desk.renew(0, 1), 4);
        Checks.due("renew(1, 1000)", desk.renew(1, 1000), 1003);
        Checks.due("checkOut(1, 2)", desk.checkOut(1, 2), 1003);
        Checks.badValue(desk, "renew(0, 0)", () -> desk.renew(0, 0));
        Checks.badValue(desk, "renew(0, 1001)", () -> desk.renew(0, 1001));
        Checks.noSuch(desk, "renew(2, 0)", () -> desk.renew(2, 0));
        Checks.noSuch(desk, "renew(-1, 0)", () -> desk.renew(-1, 0));
        Checks.noSuch(desk, "renew(10, 5)", () -> desk.renew(10, 5));
        desk.request(2, 1, 5, false);
        Checks.badState(desk, "renew(0, 5)", () -> desk.renew(0, 5));
        Checks.badValue(desk, "renew(0, 0)", () -> desk.renew(0, 0));
        Checks.due("renew(1, 7), beside the waiting one", desk.renew(1, 7), 10);
        Checks.due("undo()", desk.undo(), 3);
        Checks.due("checkOut(1, 2)", desk.checkOut(1, 2), 1003);
        desk.breakUp(1);
        Checks.badState(desk, "renew(1, 5), lost", () -> desk.renew(1, 5));
        desk.request(3, 2, 5, true);
        desk.cancel(2);
        Checks.due("a shared one may be renewed", desk.renew(0, 6), 9);
    }

    private static void breakUp() {
        SectionDesk desk = Checks.fiveSections();
        desk.request(4, 1, 5, false);
        desk.request(1, 2, 5, true);
        desk.request(2, 3, 5, true);
        Checks.due("breakUp(0)", desk.breakUp(0), 4);
        Checks.due("checkOut(0, 3)", desk.checkOut(0, 3), 0);
        Checks.due("checkOut(0, 2)", desk.checkOut(0, 2), 5);
        Checks.due("the line was served", desk.holders(2) + desk.holders(3), 2 + 4);
        Checks.badState(desk, "breakUp(0)", () -> desk.breakUp(0));
        Checks.due("breakUp(1)", desk.breakUp(1), 1);
        Checks.noSuch(desk, "breakUp(1), shared", () -> desk.breakUp(1));
        Checks.noSuch(desk, "breakUp(-1)", () -> desk.breakUp(-1));
        Checks.noSuch(desk, "breakUp(10)", () -> desk.breakUp(10));
        Checks.due("undo()", desk.undo(), 3);
        Checks.due("holders(2)", desk.holders(2), 2);
    }

    private static void discard() {
        SectionDesk desk = Checks.fiveSections();
        desk.request(0, 1, 5, false);
        desk.edit(0, 2, 0, 5);
        desk.edit(0, 3, 5, 6);
        desk.edit(0, 3, 4, 6);
        desk.edit(0, 3, 4, 0);
        desk.request(1, 3, 5, true);
        Checks.due("discard(0)", desk.discard(0), 2);
        Checks.due("the line was served", desk.holders(3), 1);
        Checks.due("line(2, 0)", desk.line(2, 0), 0);
        Checks.due("entries()", desk.entries(), 0);
        Checks.due("discard(0), shared", desk.discard(0), 0);
        Checks.noSuch(desk, "discard(0)", () -> desk.discard(0));
        Checks.noSuch(desk, "discard(10)", () -> desk.discard(10));
        Checks.noSuch(desk, "discard(-1)", () -> desk.discard(-1));
        Checks.due("undo()", desk.undo(), 3);
        Checks.due("undo()", desk.undo(), 2);
        desk.breakUp(0);
        Checks.due("discard(0), lost", desk.discard(0), 2);
    }

    private static void edit() {
        SectionDesk desk = Checks.fiveSections();
        desk.write(2, 3, 4);
        desk.request(0, 1, 5, false);
        desk.request(1, 4, 5, true);
        Checks.due("edit(0, 2, 3, 999)", desk.edit(0, 2, 3, 999), 4);
        Checks.due("edit(0, 2, 3, 0)", desk.edit(0, 2, 3, 0), 999);
        Checks.due("line(2, 3)", desk.line(2, 3), 4);
        Checks.due("copied(0, 2, 3, true)", desk.copied(0, 2, 3, true), 4);
        Checks.noSuch(desk, "edit(2, 2, 3, 1)", () -> desk.edit(2, 2, 3, 1));
        Checks.noSuch(desk, "edit(-1, 2, 3, 1)", () -> desk.edit(-1, 2, 3, 1));
        Checks.noSuch(desk, "edit(0, 4, 3, 1)", () -> desk.edit(0, 4, 3, 1));
        Checks.noSuch(desk, "edit(0, 0, 3, 1)", () -> desk.edit(0, 0, 3, 1));
        Checks.noSuch(desk, "edit(0, 9, 3, 1)", () -> desk.edit(0, 9, 3, 1));
        Checks.noSuch(desk, "edit(0, 2, 6, 1000)", () -> desk.edit(0, 2, 6, 1000));
        Checks.noSuch(desk, "edit(0, 2, -1, 1)", () -> desk.edit(0, 2, -1, 1));
        Checks.badValue(desk, "edit(0, 2, 3, 1000)", () -> desk.edit(0, 2, 3, 1000));
        Checks.badValue(desk, "edit(1, 4, 3, -1)", () -> desk.edit(1, 4, 3, -1));
        Checks.badState(desk, "edit(1, 4, 3, 1)", () -> desk.edit(1, 4, 3, 1));
        desk.breakUp(0);
        Checks.due("edit(0, 2, 3, 8), lost", desk.edit(0, 2, 3, 8), 0);
        Checks.due("undo()", desk.undo(), 3);
        Checks.due("copied(0, 2, 3, false)", desk.copied(0, 2, 3, false), 0);
    }

    private static void copied() {
        SectionDesk desk = Checks.fiveSections();
        desk.write(2, 3, 4);
        desk.write(4, 0, 6);
        desk.request(0, 1, 2, false);
        desk.request(1, 4, 5, true);
        desk.edit(0, 2, 3, 9);
        desk.pass(2);
        desk.write(2, 3, 5);
        Checks.due("copied(0, 2, 3, true)", desk.copied(0, 2, 3, true), 4);
        Checks.due("copied(0, 2, 3, false)", desk.copied(0, 2, 3, false), 9);
        Checks.due("copied(1, 4, 0, true)", desk.copied(1, 4, 0, true), 6);
        Checks.due("copied(1, 4, 0, false)", desk.copied(1, 4, 0, false), 6);
        Checks.noSuch(desk, "copied(2, 2, 3, true)", () -> desk.copied(2, 2, 3, true));
        Checks.noSuch(desk, "copied(0, 4, 3, true)", () -> desk.copied(0, 4, 3, true));
        Checks.noSuch(desk, "copied(0, 0, 3, false)", () -> desk.copied(0, 0, 3, false));
        Checks.noSuch(desk, "copied(0, 5, 3, false)", () -> desk.copied(0, 5, 3, false));
        Checks.noSuch(desk, "copied(0, 2, 6, false)", () -> desk.copied(0, 2, 6, false));
        Checks.noSuch(desk, "copied(0, 2, -1, false)", () -> desk.copied(0, 2, -1, false));
    }

    /** A lost check-out 0 of section 1, whose lines 0 to 4 of section 2 show each case. */
    private static SectionDesk lostOne() {
        SectionDesk desk = Checks.fiveSections();
        desk.request(3, 1, 5, false);
        desk.edit(0, 2, 1, 11);
        desk.edit(0, 2, 2, 12);
        desk.edit(0, 2, 3, 13);
        desk.edit(0, 3, 3, 14);
        Checks.due("conflicts(0), held", desk.conflicts(0), 0);
        desk.pass(5);
        desk.write(2, 0, 20);
        desk.write(2, 2, 12);
        desk.write(2, 3, 23);
        desk.write(3, 3, 24);
        return desk;
    }

    private static void conflicts() {
        SectionDesk desk = lostOne();
        Checks.due("conflicts(0)", desk.conflicts(0), 2);
        desk.write(3, 3, 14);
        Checks.due("conflicts(0)", desk.conflicts(0), 1);
        desk.write(2, 3, 0);
        Checks.due("conflicts(0)", desk.conflicts(0), 0);
        Checks.noSuch(desk, "conflicts(1)", () -> desk.conflicts(1));
        Checks.noSuch(desk, "conflicts(-1)", () -> desk.conflicts(-1));
        Checks.noSuch(desk, "conflicts(10)", () -> desk.conflicts(10));
    }

    private static void giveBackHeld() {
        SectionDesk desk = Checks.fiveSections();
        desk.request(2, 1, 5, false);
        desk.edit(0, 3, 5, 6);
        desk.edit(0, 2, 0, 5);
        desk.edit(0, 2, 4, 9);
        desk.request(1, 3, 5, true);
        Checks.due("giveBack(0, 0)", desk.giveBack(0, 0), 3);
        int[] due = {0, 2, 0, 0, 5, 2, 0, 2, 4, 0, 9, 2, 0, 3, 5, 0, 6, 2};
        for (int i = 0; i < 18; i++) {
            Checks.due("entry(" + i / 6 + ", " + i % 6 + ")", desk.entry(i / 6, i % 6), due[i]);
        }
        Checks.due("section(2, 3)", desk.section(2, 3), 1);
        Checks.due("section(1, 3)", desk.section(1, 3), 0);
        Checks.due("the line was served afterwards", desk.copied(0, 3, 5, true), 6);
        Checks.badValue(desk, "giveBack(0, 3)", () -> desk.giveBack(0, 3));
        Checks.badValue(desk, "giveBack(0, -1)", () -> desk.giveBack(0, -1));
        Checks.noSuch(desk, "giveBack(1, 3)", () -> desk.giveBack(1, 3));
        Checks.due("giveBack(0, 2), shared", desk.giveBack(0, 2), 0);
        Checks.due("holders(3)", desk.holders(3), 0);
        Checks.due("undo()", desk.undo(), 3);
        Checks.due("undo()", desk.undo(), 2);
        Checks.due("line(2, 4)", desk.line(2, 4), 0);
        Checks.due("entries()", desk.entries(), 0);
    }

    private static void giveBackLost() {
        SectionDesk taken = lostOne();
        Checks.due("giveBack(0, 1)", taken.giveBack(0, 1), 3);
        int[] due = {20, 11, 12, 13};
        for (int line = 0; line < 4; line++) {
            Checks.due("line(2, " + line + ")", taken.line(2, line), due[line]);
        }
        Checks.due("line(3, 3)", taken.line(3, 3), 14);
        Checks.due("blame(2, 3)", taken.blame(2, 3), 3);
        Checks.due("blame(2, 2)", taken.blame(2, 2), NONE);
        SectionDesk kept = lostOne();
        Checks.due("giveBack(0, 2)", kept.giveBack(0, 2), 1);
        Checks.due("line(2, 1)", kept.line(2, 1), 11);
        Checks.due("line(2, 3)", kept.line(2, 3), 23);
        Checks.due("line(3, 3)", kept.line(3, 3), 24);
        Checks.noSuch(kept, "checkOut(0, 0)", () -> kept.checkOut(0, 0));
    }

    private static void giveBackRefused() {
        SectionDesk desk = lostOne();
        Checks.badState(desk, "giveBack(0, 0)", () -> desk.giveBack(0, 0));
        desk.request(1, 3, 5, true);
        Checks.badState(desk, "giveBack(0, 1)", () -> desk.giveBack(0, 1));
        Checks.badValue(desk, "giveBack(0, 3)", () -> desk.giveBack(0, 3));
        desk.discard(1);
        desk.request(1, 0, 5, false);
        Checks.badState(desk, "giveBack(0, 2)", () -> desk.giveBack(0, 2));
        desk.breakUp(1);
        desk.request(1, 4, 5, false);
        desk.write(2, 3, 0);
        desk.write(3, 3, 0);
        Checks.due("giveBack(0, 0) without conflicts", desk.giveBack(0, 0), 3);
    }

    private static void checkOut() {
        SectionDesk desk = Checks.fiveSections();
        desk.pass(2);
        desk.request(5, 1, 7, false);
        desk.request(4, 4, 3, true);
        desk.edit(0, 1, 0, 8);
        int[] due = {5, 1, 9, 1, 0, 1, 4, 4, 5, 1, 1, 0};
        for (int i = 0; i < 12; i++) {
            Checks.due("checkOut(" + i / 6 + ", " + i % 6 + ")", desk.checkOut(i / 6, i % 6), due[i]);
        }
        desk.breakUp(0);
        Checks.due("checkOut(0, 3)", desk.checkOut(0, 3), 0);
        Checks.due("checkOut(0, 5)", desk.checkOut(0, 5), 1);
        Checks.badValue(desk, "checkOut(0, 6)", () -> desk.checkOut(0, 6));
        Checks.badValue(desk, "checkOut(0, -1)", () -> desk.checkOut(0, -1));
        Checks.noSuch(desk, "checkOut(2, 6)", () -> desk.checkOut(2, 6));
        Checks.noSuch(desk, "checkOut(-1, 0)", () -> desk.checkOut(-1, 0));
        Checks.noSuch(desk, "checkOut(32, 0)", () -> desk.checkOut(32, 0));
    }

    private static void holders() {
        SectionDesk desk = Checks.fiveSections();
        desk.request(0, 2, 7, false);
        desk.request(1, 3, 7, true);
        desk.request(2, 3, 3, true);
        Checks.due("holders(3)", desk.holders(3), 6);
        Checks.due("holders(2)", desk.holders(2), 1);
        Checks.due("holders(1), above them", desk.holders(1), 0);
        desk.discard(0);
        desk.request(3, 1, 7, true);
        Checks.due("holders(2), from above", desk.holders(2), 1);
        Checks.due("holders(3)", desk.holders(3), 7);
        desk.breakUp(0);
        desk.request(4, 4, 7, false);
        Checks.due("holders(4)", desk.holders(4), 1);
        desk.breakUp(0);
        Checks.due("holders(4), lost", desk.holders(4), 0);
        Checks.noSuch(desk, "holders(5)", () -> desk.holders(5));
        Checks.noSuch(desk, "holders(-1)", () -> desk.holders(-1));
    }
}
