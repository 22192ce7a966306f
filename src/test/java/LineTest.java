/** Promises 21 to 32: what-if queries, the history, the line and time. */
final class LineTest {
    private static final int NONE = SectionDesk.NONE;

    private LineTest() {
    }

    public static void main(String[] args) {
        Checks.test("21 ifBroken", LineTest::ifBroken);
        Checks.test("22 grantedAt", LineTest::grantedAt);
        Checks.test("22 grantedAt after 2000 ticks", LineTest::grantedAtLate);
        Checks.test("23 waitsFor", LineTest::waitsFor);
        Checks.test("24 entries", LineTest::entries);
        Checks.test("24 at most 150 entries", LineTest::manyEntries);
        Checks.test("24 a dropped entry comes back by undo()", LineTest::undoneDrop);
        Checks.test("25 entry", LineTest::entry);
        Checks.test("26 blame", LineTest::blame);
        Checks.test("27 lineAt", LineTest::lineAt);
        Checks.test("27 lineAt of dropped entries", LineTest::lineAtDropped);
        Checks.test("28 revert", LineTest::revert);
        Checks.test("28 revert that drops entries", LineTest::revertDropping);
        Checks.test("28 revert that is refused", LineTest::revertRefused);
        Checks.test("29 waiting", LineTest::waiting);
        Checks.test("30 waitingAt", LineTest::waitingAt);
        Checks.test("31 pass", LineTest::pass);
        Checks.test("31 pass serves the line once a tick", LineTest::passServes);
        Checks.test("31 a grant that makes room for one before it", LineTest::passMakesRoom);
        Checks.test("32 useBits", LineTest::useBits);
        Checks.finish();
    }

    private static void ifBroken() {
        SectionDesk desk = Checks.fiveSections();
        desk.request(0, 1, 50, false);
        desk.request(1, 2, 5, true);
        desk.request(2, 1, 5, true);
        desk.request(3, 3, 5, false);
        desk.request(4, 4, 5, true);
        long before = desk.digest();
        Checks.due("ifBroken(0)", desk.ifBroken(0), 2);
        Checks.due("ifBroken(1)", desk.ifBroken(1), 0);
        Checks.due("digest()", desk.digest(), before);
        desk.breakUp(0);
        Checks.due("ifBroken(0), lost", desk.ifBroken(0), 0);
        Checks.due("ifBroken(2), shared", desk.ifBroken(2), 0);
        Checks.noSuch(desk, "ifBroken(4)", () -> desk.ifBroken(4));
        Checks.noSuch(desk, "ifBroken(-1)", () -> desk.ifBroken(-1));
        Checks.noSuch(desk, "ifBroken(10)", () -> desk.ifBroken(10));
    }

    private static void grantedAt() {
        SectionDesk desk = Checks.fiveSections();
        desk.pass(10);
        desk.request(0, 1, 7, false);
        desk.request(1, 2, 4, false);
        desk.request(2, 1, 6, true);
        desk.request(3, 0, 9, false);
        long before = desk.digest();
        Checks.due("grantedAt(1)", desk.grantedAt(1), 17);
        Checks.due("grantedAt(2)", desk.grantedAt(2), 21);
        Checks.due("grantedAt(3)", desk.grantedAt(3), 27);
        Checks.due("digest()", desk.digest(), before);
        Checks.badState(desk, "grantedAt(0)", () -> desk.grantedAt(0));
        Checks.noSuch(desk, "grantedAt(6)", () -> desk.grantedAt(6));
        Checks.noSuch(desk, "grantedAt(-1)", () -> desk.grantedAt(-1));
    }

    private static void grantedAtLate() {
        SectionDesk desk = Checks.fiveSections();
        desk.pass(5);
        desk.request(0, 0, 1000, false);
        desk.request(1, 0, 1000, false);
        desk.request(2, 0, 1, false);
        desk.request(3, 0, 1, false);
        Checks.due("grantedAt(1)", desk.grantedAt(1), 1005);
        Checks.due("grantedAt(2), after just 2000 ticks", desk.grantedAt(2), 2005);
        Checks.due("grantedAt(3), after 2001 ticks", desk.grantedAt(3), NONE);
        desk.pass(1);
        Checks.due("grantedAt(3)", desk.grantedAt(3), 2006);
    }

    private static void waitsFor() {
        SectionDesk desk = Checks.fiveSections();
        desk.request(0, 2, 50, true);
        desk.request(1, 3, 50, false);
        desk.request(2, 4, 50, true);
        desk.request(1, 1, 50, false);
        desk.request(3, 0, 50, true);
        desk.request(4, 4, 50, false);
        desk.request(5, 2, 50, true);
        Checks.due("waitsFor(1), but not for himself", desk.waitsFor(1), 1);
        Checks.due("waitsFor(3)", desk.waitsFor(3), 2);
        Checks.due("waitsFor(4)", desk.waitsFor(4), 4 + 8);
        Checks.due("waitsFor(5)", desk.waitsFor(5), 2);
        desk.breakUp(1);
        Checks.due("waitsFor(3), a lost one does not count", desk.waitsFor(3), 2);
        Checks.badState(desk, "waitsFor(0)", () -> desk.waitsFor(0));
        Checks.noSuch(desk, "waitsFor(6)", () -> desk.waitsFor(6));
        Checks.noSuch(desk, "waitsFor(-1)", () -> desk.waitsFor(-1));
    }

    private static void entries() {
        SectionDesk desk = Checks.fiveSections();
        desk.write(1, 0, 5);
        desk.write(1, 0, 5);
        desk.write(4, 0, 5);
        Checks.due("entries()", desk.entries(), 2);
        desk.removeSection(4);
        Checks.due("entries()", desk.entries(), 1);
        desk.addSection(0);
        Checks.due("blame of the new section", desk.blame(4, 0), NONE);
        Checks.due("undo()", desk.undo(), 3);
        Checks.due("undo()", desk.undo(), 2);
        Checks.due("entries()", desk.entries(), 2);
    }

    private static void manyEntries() {
        SectionDesk desk = Checks.fiveSections();
        for (int value = 1; value <= 160; value++) {
            desk.write(value % 5, value % 6, value);
            Checks.due("entries()", desk.entries(), Math.min(150, value));
        }
        Checks.due("entry(0, 4)", desk.entry(0, 4), 11);
        Checks.due("entry(149, 4)", desk.entry(149, 4), 160);
        Checks.noSuch(desk, "entry(150, 0)", () -> desk.entry(150, 0));
        desk.removeSection(2);
        Checks.due("entries()", desk.entries(), 120);
        Checks.due("entry(0, 4)", desk.entry(0, 4), 11);
        Checks.due("entry(1, 4)", desk.entry(1, 4), 13);
        Checks.due("entry(119, 4)", desk.entry(119, 4), 160);
        Checks.due("undo()", desk.undo(), 3);
        Checks.due("entry(1, 4)", desk.entry(1, 4), 12);
    }

    private static void undoneDrop() {
        SectionDesk desk = Checks.fiveSections();
        for (int value = 1; value <= 170; value++) {
            desk.write(0, 0, value);
        }
        for (int undone = 1; undone <= 4; undone++) {
            Checks.due("undo()", desk.undo(), 4 - undone);
            Checks.due("entries()", desk.entries(), 150);
            Checks.due("entry(0, 4)", desk.entry(0, 4), 21 - undone);
            Checks.due("entry(149, 4)", desk.entry(149, 4), 170 - undone);
        }
        desk.write(0, 0, 500);
        Checks.due("entry(0, 4)", desk.entry(0, 4), 18);
        Checks.due("entry(149, 3)", desk.entry(149, 3), 166);
    }

    private static void entry() {
        SectionDesk desk = Checks.fiveSections();
        desk.pass(3);
        desk.write(4, 5, 7);
        desk.request(2, 1, 5, false);
        desk.edit(0, 3, 1, 9);
        desk.pass(1);
        desk.giveBack(0, 0);
        desk.revert(3, 1);
        int[] due = {3, 4, 5, 0, 7, NONE, 4, 3, 1, 0, 9, 2, 4, 3, 1, 9, 0, NONE};
        for (int i = 0; i < 18; i++) {
            Checks.due("entry(" + i / 6 + ", " + i % 6 + ")", desk.entry(i / 6, i % 6), due[i]);
        }
        Checks.noSuch(desk, "entry(3, 6)", () -> desk.entry(3, 6));
        Checks.noSuch(desk, "entry(-1, 0)", () -> desk.entry(-1, 0));
        Checks.badValue(desk, "entry(0, 6)", () -> desk.entry(0, 6));
        Checks.badValue(desk, "entry(0, -1)", () -> desk.entry(0, -1));
    }

    private static void blame() {
        SectionDesk desk = Checks.fiveSections();
        desk.request(2, 1, 5, false);
        desk.edit(0, 3, 1, 9);
        desk.giveBack(0, 0);
        Checks.due("blame(3, 1)", desk.blame(3, 1), 2);
        Checks.due("blame(3, 2)", desk.blame(3, 2), NONE);
        Checks.due("blame(2, 1)", desk.blame(2, 1), NONE);
        desk.write(3, 1, 8);
        Checks.due("blame(3, 1) after write()", desk.blame(3, 1), NONE);
        desk.request(0, 3, 5, false);
        desk.edit(0, 3, 1, 7);
        desk.giveBack(0, 0);
        Checks.due("blame(3, 1)", desk.blame(3, 1), 0);
        for (int value = 1; value <= 150; value++) {
            desk.write(0, 0, value);
        }
        Checks.due("blame(3, 1), dropped", desk.blame(3, 1), NONE);
        Checks.noSuch(desk, "blame(5, 0)", () -> desk.blame(5, 0));
        Checks.noSuch(desk, "blame(0, 6)", () -> desk.blame(0, 6));
        Checks.noSuch(desk, "blame(0, -1)", () -> desk.blame(0, -1));
    }

    private static void lineAt() {
        SectionDesk desk = Checks.fiveSections();
        desk.write(1, 2, 5);
        desk.pass(2);
        desk.write(1, 2, 6);
        desk.write(1, 2, 7);
        desk.pass(2);
        desk.write(1, 2, 8);
        int[] due = {5, 5, 7, 7, 8};
        for (int tick = 0; tick < 5; tick++) {
            Checks.due("lineAt(1, 2, " + tick + ")", desk.lineAt(1, 2, tick), due[tick]);
            Checks.due("lineAt(1, 3, " + tick + ")", desk.lineAt(1, 3, tick), 0);
        }
        Checks.badValue(desk, "lineAt(1, 2, 5)", () -> desk.lineAt(1, 2, 5));
        Checks.badValue(desk, "lineAt(1, 2, -1)", () -> desk.lineAt(1, 2, -1));
        Checks.noSuch(desk, "lineAt(1, 6, 5)", () -> desk.lineAt(1, 6, 5));
        Checks.noSuch(desk, "lineAt(5, 0, 0)", () -> desk.lineAt(5, 0, 0));
    }

    private static void lineAtDropped() {
        SectionDesk desk = Checks.fiveSections();
        desk.pass(1);
        desk.write(1, 2, 5);
        Checks.due("lineAt(1, 2, 0)", desk.lineAt(1, 2, 0), 0);
        for (int value = 1; value <= 149; value++) {
            desk.write(0, 0, value);
        }
        Checks.due("lineAt(1, 2, 0), still kept", desk.lineAt(1, 2, 0), 0);
        desk.write(0, 0, 0);
        Checks.due("lineAt(1, 2, 0), dropped", desk.lineAt(1, 2, 0), 5);
    }

    private static void revert() {
        SectionDesk desk = Checks.fiveSections();
        desk.write(2, 0, 1);
        desk.write(4, 0, 1);
        desk.pass(1);
        desk.write(3, 5, 2);
        desk.write(2, 0, 2);
        desk.write(2, 1, 2);
        desk.write(4, 0, 2);
        desk.pass(1);
        desk.write(2, 0, 1);
        Checks.due("revert(1, 1)", desk.revert(1, 1), 1);
        Checks.due("line(2, 0)", desk.line(2, 0), 2);
        Checks.due("section(2, 3)", desk.section(2, 3), 5);
        Checks.due("revert(1, 2), the present tick", desk.revert(1, 2), 0);
        Checks.due("revert(1, 0)", desk.revert(1, 0), 3);
        Checks.due("line(2, 0)", desk.line(2, 0), 1);
        Checks.due("line(2, 1)", desk.line(2, 1), 0);
        Checks.due("line(3, 5)", desk.line(3, 5), 0);
        Checks.due("line(4, 0) is not below it", desk.line(4, 0), 2);
        Checks.due("section(2, 3)", desk.section(2, 3), 6);
        Checks.due("entries()", desk.entries(), 11);
        Checks.due("entry(8, 2)", desk.entry(8, 2), 0);
        Checks.due("entry(9, 2)", desk.entry(9, 2), 1);
        Checks.due("entry(10, 1)", desk.entry(10, 1), 3);
        Checks.due("undo()", desk.undo(), 3);
        Checks.due("line(2, 0)", desk.line(2, 0), 2);
        Checks.due("section(2, 3)", desk.section(2, 3), 5);
        Checks.due("undo() of what changed nothing", desk.undo(), 2);
    }

    /** The values are told by the entries as they were before the call dropped the oldest ones. */
    private static void revertDropping() {
        SectionDesk desk = Checks.fiveSections();
        desk.pass(1);
        desk.write(1, 0, 5);
        for (int i = 0; i < 149; i++) {
            desk.write(0, 0, 1 + i);
        }
        Checks.due("revert(0, 0)", desk.revert(0, 0), 2);
        Checks.due("line(0, 0)", desk.line(0, 0), 0);
        Checks.due("line(1, 0)", desk.line(1, 0), 0);
        Checks.due("entry(149, 1)", desk.entry(149, 1), 1);
        Checks.due("entry(0, 4)", desk.entry(0, 4), 2);
    }

    private static void revertRefused() {
        SectionDesk desk = Checks.fiveSections();
        desk.write(2, 0, 1);
        desk.pass(4);
        desk.request(0, 1, 5, true);
        Checks.badState(desk, "revert(1, 0)", () -> desk.revert(1, 0));
        Checks.badState(desk, "revert(2, 0), below it", () -> desk.revert(2, 0));
        Checks.badState(desk, "revert(0, 0), above it", () -> desk.revert(0, 0));
        Checks.badValue(desk, "revert(0, 5)", () -> desk.revert(0, 5));
        Checks.badValue(desk, "revert(0, -1)", () -> desk.revert(0, -1));
        Checks.noSuch(desk, "revert(5, 9)", () -> desk.revert(5, 9));
        Checks.noSuch(desk, "revert(-1, 0)", () -> desk.revert(-1, 0));
        Checks.due("revert(4, 0), beside it", desk.revert(4, 0), 0);
        desk.discard(0);
        desk.request(0, 1, 5, false);
        desk.breakUp(0);
        Checks.due("revert(2, 0), a lost one", desk.revert(2, 0), 0);
    }

    private static void waiting() {
        SectionDesk desk = Checks.fiveSections();
        desk.request(0, 0, 50, false);
        for (int user = 1; user < 6; user++) {
            desk.request(user, user - 1, 5, true);
            Checks.due("waiting()", desk.waiting(), user);
        }
        desk.giveBack(0, 0);
        Checks.due("waiting()", desk.waiting(), 0);
        Checks.due("undo()", desk.undo(), 3);
        Checks.due("waiting()", desk.waiting(), 5);
    }

    private static void waitingAt() {
        SectionDesk desk = Checks.fiveSections();
        desk.request(0, 0, 50, false);
        desk.request(4, 2, 7, true);
        desk.request(3, 1, 8, false);
        desk.request(5, 4, 9, false);
        desk.cancel(3);
        int[] due = {4, 2, 7, 1, 5, 4, 9, 0};
        for (int i = 0; i < 8; i++) {
            Checks.due("waitingAt(" + i / 4 + ", " + i % 4 + ")",
                    desk.waitingAt(i / 4, i % 4), due[i]);
        }
        Checks.noSuch(desk, "waitingAt(2, 4)", () -> desk.waitingAt(2, 4));
        Checks.noSuch(desk, "waitingAt(-1, 0)", () -> desk.waitingAt(-1, 0));
        Checks.badValue(desk, "waitingAt(0, 4)", () -> desk.waitingAt(0, 4));
        Checks.badValue(desk, "waitingAt(0, -1)", () -> desk.waitingAt(0, -1));
    }

    private static void pass() {
        SectionDesk desk = Checks.fiveSections();
        desk.request(0, 1, 3, false);
        desk.request(1, 4, 3, true);
        desk.request(2, 0, 2, false);
        Checks.due("pass(2)", desk.pass(2), 2);
        Checks.due("checkOut(0, 3)", desk.checkOut(0, 3), 1);
        Checks.due("pass(1)", desk.pass(1), 3);
        Checks.due("checkOut(0, 3)", desk.checkOut(0, 3), 0);
        Checks.due("the shared one ceased, and its number is taken", desk.checkOut(1, 0), 2);
        Checks.due("checkOut(1, 2)", desk.checkOut(1, 2), 5);
        Checks.due("pass(0)", desk.pass(0), 3);
        Checks.due("pass(1000)", desk.pass(1000), 1003);
        Checks.due("holders(0)", desk.holders(0), 0);
        Checks.badValue(desk, "pass(1001)", () -> desk.pass(1001));
        Checks.badValue(desk, "pass(-1)", () -> desk.pass(-1));
        Checks.due("undo()", desk.undo(), 3);
        Checks.due("undo() of pass(0)", desk.undo(), 2);
        Checks.due("pass(0)", desk.pass(0), 3);
        Checks.due("holders(0)", desk.holders(0), 2);
    }

    /** Each of the waiting ones gets its turn within one call. */
    private static void passServes() {
        SectionDesk desk = Checks.fiveSections();
        desk.request(0, 0, 3, false);
        desk.request(1, 0, 2, false);
        desk.request(2, 1, 1, true);
        desk.request(3, 0, 4, true);
        desk.request(4, 2, 5, false);
        Checks.due("pass(10)", desk.pass(10), 10);
        Checks.due("holders(2)", desk.holders(2), 4);
        Checks.due("checkOut(2, 2)", desk.checkOut(2, 2), 14);
        int[] held = {2, 2, 1, 4, 2};
        for (int user = 0; user < 5; user++) {
            int due = Float.floatToIntBits((float) held[user] / 10.0f);
            Checks.due("useBits(" + user + ")", desk.useBits(user), due);
        }
    }

    /**
     * Ten check-outs exist; the first in the line waits only for that. The second one is granted
     * when a lease ends, and absorbs three, so that the first one follows a tick later, although
     * no lease ends at that tick.
     */
    private static void passMakesRoom() {
        SectionDesk desk = new SectionDesk();
        for (int section = 1; section < 13; section++) {
            desk.addSection(section > 1 && section < 6 ? 1 : 0);
        }
        for (int section = 2; section < 12; section++) {
            int user = section < 5 ? 0 : section == 5 ? 1 : 2;
            Checks.due("request", desk.request(user, section, section == 5 ? 4 : 50, false),
                    section - 2);
        }
        Checks.due("request(3, 12, 7, true)", desk.request(3, 12, 7, true), NONE);
        Checks.due("request(0, 1, 9, false)", desk.request(0, 1, 9, false), NONE);
        Checks.due("grantedAt(0)", desk.grantedAt(0), 4);
        Checks.due("grantedAt(3)", desk.grantedAt(3), 5);
        Checks.due("pass(10)", desk.pass(10), 10);
        Checks.due("checkOut(0, 2)", desk.checkOut(0, 2), 13);
        Checks.due("checkOut(1, 0)", desk.checkOut(1, 0), 3);
        Checks.due("checkOut(1, 2)", desk.checkOut(1, 2), 12);
        Checks.due("useBits(3)", desk.useBits(3), Float.floatToIntBits(0.6f));
    }

    private static void useBits() {
        SectionDesk desk = Checks.fiveSections();
        desk.request(0, 1, 700, false);
        desk.request(1, 2, 3, true);
        desk.request(2, 4, 7, true);
        desk.request(3, 4, 1000, true);
        Checks.due("useBits(0) at tick 0", desk.useBits(0), 0);
        int[] steps = {1, 2, 3, 41, 653, 1000, 7, 11};
        int now = 0;
        for (int step : steps) {
            now = desk.pass(step);
            int[] held = {Math.min(now, 699), Math.max(0, Math.min(now - 699, 3)),
                Math.min(now, 6), Math.min(now, 999), 0, 0};
            for (int user = 0; user < 6; user++) {
                int due = Float.floatToIntBits((float) held[user] / (float) now);
                Checks.due("useBits(" + user + ") at " + now, desk.useBits(user), due);
            }
        }
        Checks.noSuch(desk, "useBits(6)", () -> desk.useBits(6));
        Checks.noSuch(desk, "useBits(-1)", () -> desk.useBits(-1));
        SectionDesk three = Checks.fiveSections();
        three.request(0, 2, 9, false);
        three.request(0, 3, 9, true);
        three.request(0, 4, 9, true);
        three.pass(8);
        Checks.due("useBits(0), three", three.useBits(0), Float.floatToIntBits(3.0f));
    }
}
