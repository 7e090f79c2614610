/** Promises 1 to 4, 9, 28 and 29: a new object, parts, grants, the tape, what is meant, counts and troubles. */
public final class TellingTest {
    private static final Checks CHECKS = new Checks();

    private static void newObject() {
        RightsHouse x = new RightsHouse();
        for (int what = 0; what < 5; what++) {
            CHECKS.due("new: count(" + what + ")", x.count(what), 0);
        }
        CHECKS.due("new: trouble()", x.trouble(), 0);
        CHECKS.due("new: fault()", x.fault(), 0);
        CHECKS.due("new: where()", x.where(), -1);
        CHECKS.due("new: leaks()", x.leaks(), 0);
        CHECKS.due("new: misuse(true)", x.misuse(true), 0);
        CHECKS.due("new: asked(0)", x.asked(0), -1);
        CHECKS.due("new: trim()", x.trim(), 0);
        CHECKS.due("new: cured(0)", x.cured(0), -1);
        CHECKS.due("new: way(0, 0)", x.way(0, 0), -2);
        CHECKS.noStep("new: step(0)", x, 0);
        x.part(0);
        CHECKS.due("asked(0) of a first part behind other calls", x.asked(0), 1);
    }

    private static void parts() {
        RightsHouse x = new RightsHouse();
        CHECKS.due("part(-1)", x.part(-1), -1);
        CHECKS.due("trouble() of part(-1)", x.trouble(), 2);
        CHECKS.due("part(65536)", x.part(65536), -1);
        CHECKS.due("part(MIN)", x.part(Integer.MIN_VALUE), -1);
        for (int i = 0; i < 10; i++) {
            CHECKS.due("part " + i, x.part(i == 9 ? 65535 : i), i);
            CHECKS.due("trouble() of part " + i, x.trouble(), 0);
        }
        CHECKS.due("an eleventh part", x.part(0), -1);
        CHECKS.due("trouble() of an eleventh part", x.trouble(), 3);
        CHECKS.due("an eleventh part with a wrong number", x.part(65536), -1);
        CHECKS.due("trouble() of both", x.trouble(), 2);
        CHECKS.due("count(0)", x.count(0), 10);
        CHECKS.due("count(1)", x.count(1), 0);
        CHECKS.due("count(2)", x.count(2), 13 + 16);
        CHECKS.due("idle(9)", x.idle(9), 65535);
    }

    private static void grants() {
        RightsHouse x = Checks.house(1, "get 0 to a; get 15 to b");
        CHECKS.due("grant(1, 0)", x.grant(1, 0), false);
        CHECKS.due("trouble() of grant(1, 0)", x.trouble(), 1);
        CHECKS.due("grant(-1, 65536)", x.grant(-1, 65536), false);
        CHECKS.due("trouble() of grant(-1, 65536)", x.trouble(), 1);
        CHECKS.due("grant(0, 65536)", x.grant(0, 65536), false);
        CHECKS.due("trouble() of grant(0, 65536)", x.trouble(), 2);
        CHECKS.due("grant(0, -1)", x.grant(0, -1), false);
        CHECKS.due("count(2) behind refused ones", x.count(2), 1);
        CHECKS.due("holds(0, 1)", x.holds(0, 1), 0);
        CHECKS.due("grant(0, 32768)", x.grant(0, 32768), true);
        CHECKS.due("trouble() of grant(0, 32768)", x.trouble(), 0);
        CHECKS.due("holds(0, 0)", x.holds(0, 0), 0);
        CHECKS.due("holds(0, 1)", x.holds(0, 1), 32768);
        CHECKS.due("count(1)", x.count(1), 2);
    }

    private static void tape() {
        RightsHouse x = new RightsHouse();
        x.part(0);
        for (int i = 1; i <= 15; i++) {
            CHECKS.due("feed " + i, x.feed(0x20202020, 0x20202020, 0x20202020, 0x20202020, 0x20202020), 20 * i);
        }
        CHECKS.due("a 16th feed", x.feed(0, 0, 0, 0, 0), -1);
        CHECKS.due("count(4)", x.count(4), 300);
        CHECKS.due("lines(0, 300)", x.lines(0, 300), -1);
        CHECKS.due("where() of 300 blanks", x.where(), 300);
        CHECKS.due("count(4) behind lines()", x.count(4), 0);
        // The highest byte first, and a byte above 127 is no sign of a token.
        CHECKS.due("feed", x.feed(0x67657431, 0x746F2062, 0xFF202020, 0, -1), 20);
        CHECKS.due("lines(0, 8)", x.lines(0, 8), 1);
        CHECKS.due("line(0, 0, 2)", x.line(0, 0, 2), 1);
        x.feed(0x67657431, 0x746F2062, 0xFF202020, 0, -1);
        CHECKS.due("lines(0, 9)", x.lines(0, 9), -1);
        CHECKS.due("where() of byte 255", x.where(), 8);
    }

    private static void meant() {
        RightsHouse x = new RightsHouse();
        int[][] wrong = {{-1, 0}, {0, -1}, {16, 0}, {0, 16}, {Integer.MAX_VALUE, Integer.MIN_VALUE}};
        for (int[] pair : wrong) {
            CHECKS.due("meant of " + pair[0] + ", " + pair[1], x.meant(pair[0], pair[1], true), false);
            CHECKS.due("trouble() of it", x.trouble(), 2);
        }
        CHECKS.due("count(3)", x.count(3), 0);
        CHECKS.due("meant(15, 0, true)", x.meant(15, 0, true), true);
        CHECKS.due("trouble() of meant(15, 0, true)", x.trouble(), 0);
        CHECKS.due("meant(15, 0, true) again", x.meant(15, 0, true), true);
        CHECKS.due("meant(0, 15, true)", x.meant(0, 15, true), true);
        CHECKS.due("count(3)", x.count(3), 2);
        CHECKS.due("meant(0, 0, false)", x.meant(0, 0, false), true);
        CHECKS.due("meant(15, 0, false)", x.meant(15, 0, false), true);
        CHECKS.due("count(3)", x.count(3), 1);
    }

    private static void countsAndTroubles() {
        RightsHouse x = Checks.house(3, "get 0 to a", 4, "get 2 to a; result a", 0, "");
        CHECKS.due("count(0)", x.count(0), 3);
        CHECKS.due("count(1)", x.count(1), 3);
        CHECKS.due("count(2)", x.count(2), 3);
        CHECKS.due("count(5)", x.count(5), -1);
        CHECKS.due("count(-1)", x.count(-1), -1);
        // Only calls that may be refused tell a trouble; the others leave the latest one.
        x.part(-1);
        x.holds(9, 9);
        x.feed(0, 0, 0, 0, 0);
        x.leaks();
        x.trim();
        x.wrong(0);
        x.cured(0);
        x.count(9);
        CHECKS.due("trouble() behind calls that can't be refused", x.trouble(), 2);
        x.grant(5, 0);
        CHECKS.due("trouble() of grant(5, 0)", x.trouble(), 1);
        x.way(0, 0);
        CHECKS.due("trouble() of a way that there isn't", x.trouble(), 0);
        x.key();
        CHECKS.due("trouble() of key()", x.trouble(), 5);
        x.cure();
        CHECKS.due("trouble() of cure()", x.trouble(), 0);
    }

    public static void main(String[] args) {
        newObject();
        parts();
        grants();
        tape();
        meant();
        countsAndTroubles();
        CHECKS.end();
    }
}
