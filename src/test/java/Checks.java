/** What all tests use: named tests, answers that are due, and the closing count. */
final class Checks {
    interface Call {
        long answer();
    }

    private static boolean fine;
    private static boolean allFine = true;

    private Checks() {
    }

    static void test(String name, Runnable body) {
        fine = true;
        try {
            body.run();
        } catch (RuntimeException | Error thrown) {
            fail("thrown: " + thrown + " at " + thrown.getStackTrace()[0]);
        }
        allFine &= fine;
        System.out.println((fine ? "passed: " : "FAILED: ") + name);
    }

    static boolean isFine() {
        return fine;
    }

    static void fail(String why) {
        fine = false;
        System.out.println("  " + why);
    }

    static void due(String call, long got, long want) {
        if (got != want) {
            fail(call + " answered " + got + ", due is " + want);
        }
    }

    /** The call is to throw exactly this exception, and to leave the state as it is. */
    static void refused(SectionDesk desk, Class<? extends RuntimeException> kind, String call,
            Call made) {
        long before = desk.digest();
        try {
            fail(call + " answered " + made.answer() + ", due is " + kind.getName());
        } catch (RuntimeException thrown) {
            if (thrown.getClass() != kind) {
                fail(call + " threw " + thrown.getClass().getName() + ", due is " + kind.getName());
            }
        }
        due("digest() after " + call, desk.digest(), before);
    }

    static void noSuch(SectionDesk desk, String call, Call made) {
        refused(desk, IndexOutOfBoundsException.class, call, made);
    }

    static void badValue(SectionDesk desk, String call, Call made) {
        refused(desk, IllegalArgumentException.class, call, made);
    }

    static void badState(SectionDesk desk, String call, Call made) {
        refused(desk, IllegalStateException.class, call, made);
    }

    /** 0(1(2,3),4). */
    static SectionDesk fiveSections() {
        SectionDesk desk = new SectionDesk();
        desk.addSection(0);
        desk.addSection(1);
        desk.addSection(1);
        desk.addSection(0);
        return desk;
    }

    /** Puts a text in the place of the order text. */
    static void putText(SectionDesk desk, String text) {
        desk.clearText();
        for (int i = 0; i < text.length(); i++) {
            desk.append(text.charAt(i));
        }
    }

    static String outline(SectionDesk desk) {
        StringBuilder outline = new StringBuilder();
        for (int i = 0; i < 200 && desk.outline(i) != SectionDesk.NONE; i++) {
            outline.append((char) desk.outline(i));
        }
        return outline.toString();
    }

    static void same(String what, String got, String want) {
        if (!got.equals(want)) {
            fail(what + " is " + got + ", due is " + want);
        }
    }

    static void finish() {
        System.exit(allFine ? 0 : 1);
    }
}
