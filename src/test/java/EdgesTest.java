/** Promises 1 to 29: each sentence's edges, the last that is allowed, the first that is not, nothing there and all full. */
public final class EdgesTest {
    private static final Checks CHECKS = new Checks();
    private static final int MIN = Integer.MIN_VALUE;
    private static final int MAX = Integer.MAX_VALUE;
    private static final int BLANKS = 0x20202020;
    private static final String TWELVE = "result a;".repeat(11) + "result a";

    private static RightsHouse tenParts(int grants) {
        RightsHouse x = new RightsHouse();
        for (int part = 0; part < 10; part++) {
            x.part(grants);
        }
        return x;
    }

    private static void constant() {
        CHECKS.about("The constants: `NONE = -1`: There is none; refused");
        CHECKS.due("NONE", RightsHouse.NONE, -1);
        RightsHouse x = new RightsHouse();
        CHECKS.due("what isn't there", x.wrong(0), RightsHouse.NONE);
        CHECKS.due("what is refused", x.part(-1), RightsHouse.NONE);
    }

    private static void newObject() {
        CHECKS.about("1: No PARTS");
        RightsHouse x = new RightsHouse();
        CHECKS.due("count(0)", x.count(0), 0);
        CHECKS.due("count(1)", x.count(1), 0);
        CHECKS.due("count(2)", x.count(2), 0);
        CHECKS.due("line(0, 0, 0)", x.line(0, 0, 0), -1);
        CHECKS.due("holds(0, 0)", x.holds(0, 0), -1);
        CHECKS.due("result(0)", x.result(0), -1);
        CHECKS.due("asked(0)", x.asked(0), -1);
        CHECKS.due("needed(0)", x.needed(0), -1);
        CHECKS.due("idle(0)", x.idle(0), -1);
        CHECKS.due("lacking(0)", x.lacking(0), -1);
        CHECKS.due("helped(0)", x.helped(0), -1);
        CHECKS.denied("grant(0, 0)", x, x.grant(0, 0), 1);
        CHECKS.refused("lines(0, 0)", x, x.lines(0, 0), 1);
        CHECKS.refused("without(0, 0)", x, x.without(0, 0), 1);
        CHECKS.due("door(0)", x.door(0), 0);
        CHECKS.due("door(15)", x.door(15), 0);
        CHECKS.due("leaks()", x.leaks(), 0);
        CHECKS.taken("way(0, 0)", x, x.way(0, 0), -2);
        CHECKS.due("trim()", x.trim(), 0);
        CHECKS.due("the first part", x.part(0), 0);
        CHECKS.about("1: nothing is MEANT");
        CHECKS.due("count(3)", x.count(3), 0);
        CHECKS.due("misuse(true)", x.misuse(true), 0);
        CHECKS.due("misuse(true) of every leak", Checks.everyLeak().misuse(true), 0);
        CHECKS.about("1: a new object beside another");
        x.meant(0, 0, true);
        RightsHouse y = new RightsHouse();
        CHECKS.due("count(0)", y.count(0), 0);
        CHECKS.due("count(3)", y.count(3), 0);
    }

    private static void part() {
        CHECKS.about("2: A PART with GRANTS as bits, without LINES: its number");
        RightsHouse x = new RightsHouse();
        CHECKS.taken("part(0)", x, x.part(0), 0);
        CHECKS.taken("part(65535)", x, x.part(65535), 1);
        CHECKS.due("idle(0)", x.idle(0), 0);
        CHECKS.due("idle(1)", x.idle(1), 65535);
        CHECKS.due("count(1)", x.count(1), 0);
        CHECKS.due("line(1, 0, 0)", x.line(1, 0, 0), -1);
        RightsHouse y = new RightsHouse();
        y.leaks();
        CHECKS.due("part(1) behind calls that tell", y.part(1), 0);
        CHECKS.due("asked(0)", y.asked(0), 1);
        CHECKS.due("part(2) behind calls that tell", y.part(2), 1);
        CHECKS.due("idle(1)", y.idle(1), 2);
        CHECKS.about("2: NONE: 2");
        int[] wrong = {-1, 65536, MIN, MAX, 65536 + 1};
        for (int grants : wrong) {
            CHECKS.refused("part(" + grants + ")", x, x.part(grants), 2);
            CHECKS.due("count(0) behind it", x.count(0), 2);
        }
        CHECKS.about("2: 3");
        for (int part = 2; part < 10; part++) {
            CHECKS.taken("part " + part, x, x.part(part), part);
        }
        CHECKS.refused("part 10", x, x.part(65535), 3);
        CHECKS.refused("part 10 once more", x, x.part(0), 3);
        CHECKS.due("count(0) behind it", x.count(0), 10);
        CHECKS.due("count(2) behind it", x.count(2), 16 + 1 + 2 + 1 + 2 + 2 + 3 + 1 + 2);
        CHECKS.about("2: NONE: 2; 3");
        CHECKS.refused("part 10 of a wrong number", x, x.part(65536), 2);
    }

    private static void grant() {
        CHECKS.about("3: GRANTS of a PART become these: true");
        RightsHouse x = tenParts(3);
        CHECKS.allowed("grant(0, 4)", x, x.grant(0, 4));
        CHECKS.due("idle(0)", x.idle(0), 4);
        CHECKS.due("idle(1)", x.idle(1), 3);
        CHECKS.allowed("grant(9, 65535)", x, x.grant(9, 65535));
        CHECKS.due("idle(9)", x.idle(9), 65535);
        CHECKS.allowed("grant(9, 0)", x, x.grant(9, 0));
        CHECKS.due("idle(9)", x.idle(9), 0);
        CHECKS.about("3: false: 1");
        int[] none = {-1, 10, MIN, MAX};
        for (int part : none) {
            CHECKS.denied("grant(" + part + ", 0)", x, x.grant(part, 0), 1);
        }
        CHECKS.about("3: false: 1; 2");
        int[] wrong = {-1, 65536, MIN, MAX};
        for (int grants : wrong) {
            CHECKS.denied("grant(0, " + grants + ")", x, x.grant(0, grants), 2);
            CHECKS.denied("grant(10, " + grants + ")", x, x.grant(10, grants), 1);
        }
        CHECKS.due("idle(0) behind them", x.idle(0), 4);
        CHECKS.due("count(2) behind them", x.count(2), 1 + 8 * 2);
    }

    /** Feeds blanks with one other byte among them. */
    private static int feedOne(RightsHouse x, int place, int sign) {
        int[] five = {BLANKS, BLANKS, BLANKS, BLANKS, BLANKS};
        int shift = 24 - 8 * (place % 4);
        five[place / 4] = BLANKS & ~(255 << shift) | sign << shift;
        return x.feed(five[0], five[1], five[2], five[3], five[4]);
    }

    private static void feed() {
        CHECKS.about("4: Twenty bytes come behind THE TAPE, of each number the highest first: how many it has");
        RightsHouse x = Checks.house(0, "");
        for (int place = 0; place < 20; place++) {
            CHECKS.due("feed to a tape of 0", feedOne(x, place, 255), 20);
            x.lines(0, 20);
            CHECKS.due("where() of byte " + place, x.where(), place);
            CHECKS.due("feed to a tape of 0", feedOne(x, 0, ' '), 20);
            CHECKS.due("feed to a tape of 20", feedOne(x, place, 128), 40);
            x.lines(0, 40);
            CHECKS.due("where() of byte " + (20 + place), x.where(), 20 + place);
        }
        CHECKS.about("4: NONE, and none comes, if there would be more than 300");
        x = Checks.house(0, "");
        for (int size = 20; size <= 280; size += 20) {
            CHECKS.due("feed", feedOne(x, 0, ' '), size);
        }
        CHECKS.due("a feed to 300", feedOne(x, 19, 'x'), 300);
        CHECKS.due("a feed beyond 300", feedOne(x, 0, '$'), -1);
        CHECKS.due("a feed beyond 300 once more", x.feed(-1, -1, -1, -1, -1), -1);
        CHECKS.due("count(4)", x.count(4), 300);
        x.lines(0, 300);
        CHECKS.due("where() of the last byte: all others are blanks", x.where(), 299);
        CHECKS.due("a feed behind lines()", feedOne(x, 0, ' '), 20);
    }

    private static void lines() {
        CHECKS.about("5: The first n bytes of THE TAPE (it is empty then) are a PART's LINES");
        RightsHouse x = Checks.house(0, "");
        Checks.feed(x, "result a;result b $$$$$$$$$$$$$$$$$$$$$$");
        CHECKS.taken("lines(0, 8)", x, x.lines(0, 8), 1);
        CHECKS.due("count(4)", x.count(4), 0);
        Checks.feed(x, "result a;result bcde");
        CHECKS.taken("lines(0, 17): a word is cut", x, x.lines(0, 17), 2);
        CHECKS.due("its name", x.line(0, 1, 2), 1);
        Checks.feed(x, "put a by 15         ");
        CHECKS.taken("lines(0, 10): a whole is cut", x, x.lines(0, 10), 1);
        CHECKS.due("its right", x.line(0, 0, 1), 1);
        CHECKS.about("5: (in place of the former ones): how many");
        CHECKS.taken("twelve", x, Checks.lines(x, 0, TWELVE), 12);
        CHECKS.due("count(1) of twelve", x.count(1), 12);
        CHECKS.taken("one", x, Checks.lines(x, 0, "put h by 15"), 1);
        CHECKS.due("count(1) of one", x.count(1), 1);
        CHECKS.due("line(0, 0, 0)", x.line(0, 0, 0), 3);
        CHECKS.due("line(0, 1, 0)", x.line(0, 1, 0), -1);
    }

    /** A part's first lines again, without its last one: what the last one did is gone, whichever call asks first. */
    private static void formerLineIsGone() {
        CHECKS.about("5: in place of the former ones");
        RightsHouse x = Checks.house(3, "get 0 to a;put c by 0;let b from a");
        CHECKS.due("holds(0, b) by let", x.holds(0, 1), 1);
        Checks.lines(x, 0, "get 0 to a;put c by 0");
        CHECKS.due("holds(0, b) by no let", x.holds(0, 1), 0);
        Checks.lines(x, 0, "get 0 to a;put c by 0;put a by 1");
        CHECKS.due("way(0, 1) by put", x.way(0, 1), 2);
        CHECKS.due("door(1) by put", x.door(1), 1);
        Checks.lines(x, 0, "get 0 to a;put c by 0");
        CHECKS.due("way(0, 1) by no put", x.way(0, 1), -2);
        CHECKS.due("door(1) by no put", x.door(1), 0);
        CHECKS.due("needed(0) by no put", x.needed(0), 1);
        Checks.lines(x, 0, "get 0 to a;put c by 0;result a");
        CHECKS.due("result(0) by result", x.result(0), 1);
        Checks.lines(x, 0, "get 0 to a;put c by 0");
        CHECKS.due("result(0) by none", x.result(0), 0);
        Checks.lines(x, 0, "put c by 0");
        CHECKS.due("holds(0, a) by no get", x.holds(0, 0), 0);
    }

    /** Each call that tells, as the first one behind other lines, then behind other grants. */
    private static void tellsWhatIsNow() {
        CHECKS.about("10 to 27: what is told is what is so now");
        String leak = "get 0 to a;ask 1 with a to b;put b by 1;result a";
        String other = "get 2 to b";
        int[] leaking = {1, 1, 1, 1, 1, 1, 1, 1, 3, 4, 0, 8, 1, 2, 0, 5};
        int[] without = {0, 0, 0, 0, 0, 0, 0, -1, 4, 3, 0, 0, 0, 4, -1, -2};
        int[] ungranted = {0, 0, 1, 0, 0, 0, 0, -1, 3, 0, 3, 8, 0, 0, -1, -2};
        for (int call = 0; call < leaking.length; call++) {
            RightsHouse x = Checks.house(7, leak, 8, "result a;get 3 to c");
            x.meant(3, 1, true);
            CHECKS.due("call " + call + " of a leak", tell(x, call), leaking[call]);
            Checks.lines(x, 0, other);
            CHECKS.due("call " + call + " of other lines", tell(x, call), without[call]);
            Checks.lines(x, 0, leak);
            CHECKS.due("call " + call + " of the leak again", tell(x, call), leaking[call]);
            x.grant(0, 0);
            CHECKS.due("call " + call + " of other grants", tell(x, call), ungranted[call]);
        }
    }

    private static int tell(RightsHouse x, int call) {
        switch (call) {
            case 0: return x.holds(1, 0);
            case 1: return x.result(1);
            case 2: return x.asked(1);
            case 3: return x.door(1);
            case 4: return x.leaks();
            case 5: return x.misuse(false);
            case 6: return x.without(1, 3);
            case 7: return x.wrong(0);
            case 8: return x.needed(0);
            case 9: return x.idle(0);
            case 10: return x.lacking(0);
            case 11: return x.helped(0);
            case 12: return x.cure();
            case 13: return x.result(0) + x.holds(0, 1);
            case 14: return x.key();
            default: return x.way(0, 1);
        }
    }

    private static void linesRefused() {
        CHECKS.about("5: NONE: 1, 2 (both leave THE TAPE)");
        RightsHouse x = Checks.house(0, "result h");
        CHECKS.refused("lines(0, 1) of an empty tape", x, x.lines(0, 1), 2);
        Checks.feed(x, "result a;result b   ");
        int[] none = {-1, 1, 10, MIN, MAX};
        for (int part : none) {
            CHECKS.refused("lines(" + part + ", 17)", x, x.lines(part, 17), 1);
            CHECKS.refused("lines(" + part + ", 21)", x, x.lines(part, 21), 1);
        }
        int[] wrong = {-1, 21, 300, 301, MIN, MAX};
        for (int n : wrong) {
            CHECKS.refused("lines(0, " + n + ")", x, x.lines(0, n), 2);
        }
        CHECKS.due("count(4) is left", x.count(4), 20);
        CHECKS.due("line(0, 0, 2) is left", x.line(0, 0, 2), 7);
        CHECKS.taken("lines(0, 20) of what is left", x, x.lines(0, 20), 2);
        CHECKS.about("5: 4 (the former ones stay)");
        Checks.feed(x, "result c;result i   ");
        CHECKS.refused("lines(0, 17)", x, x.lines(0, 17), 4);
        CHECKS.due("count(1)", x.count(1), 2);
        CHECKS.due("line(0, 0, 2)", x.line(0, 0, 2), 0);
        CHECKS.due("line(0, 1, 2)", x.line(0, 1, 2), 1);
        CHECKS.due("count(4): the tape doesn't stay", x.count(4), 0);
        Checks.feed(x, "result c            ");
        CHECKS.refused("lines(0, 0)", x, x.lines(0, 0), 4);
        CHECKS.due("count(4) behind lines(0, 0)", x.count(4), 0);
        CHECKS.due("count(1) behind lines(0, 0)", x.count(1), 2);
    }

    private static void fault() {
        CHECKS.about("6: The FAULT of the latest lines() not refused by 1, 2; 0 without one");
        RightsHouse x = new RightsHouse();
        CHECKS.due("fault() of a new object", x.fault(), 0);
        x.part(0);
        x.lines(1, 0);
        x.lines(0, 1);
        CHECKS.due("fault() behind refused ones alone", x.fault(), 0);
        String[] texts = {"result 1", "result i", "put a by 16", "let a from a,a,a,a,a"};
        for (int fault = 1; fault <= 4; fault++) {
            Checks.lines(x, 0, texts[fault - 1]);
            CHECKS.due("fault() " + fault, x.fault(), fault);
            x.lines(1, 0);
            CHECKS.due("fault() " + fault + " behind one refused by 1", x.fault(), fault);
            x.lines(0, 1);
            CHECKS.due("fault() " + fault + " behind one refused by 2", x.fault(), fault);
            x.part(65536);
            CHECKS.due("fault() " + fault + " behind another call", x.fault(), fault);
        }
        Checks.lines(x, 0, "result a");
        CHECKS.due("fault() without one", x.fault(), 0);
    }

    private static void whereBehind(String call, RightsHouse x, int want) {
        CHECKS.due("where() behind " + call, x.where(), want);
        Checks.lines(x, 0, "result i");
        CHECKS.due("where() of the next", x.where(), 7);
    }

    private static void where() {
        CHECKS.about("7: Its place, if the latest call that may be refused was by 4");
        RightsHouse x = Checks.house(0, "");
        x.lines(0, 0);
        CHECKS.due("where(), the first place", x.where(), 0);
        Checks.lines(x, 0, " ".repeat(300));
        CHECKS.due("where(), the last place", x.where(), 300);
        CHECKS.due("where() once more", x.where(), 300);
        x.leaks();
        x.holds(1, 1);
        x.count(5);
        x.trim();
        CHECKS.due("where() behind calls that can't be refused", x.where(), 300);
        CHECKS.about("7: NONE else");
        CHECKS.due("where() of a new object", new RightsHouse().where(), -1);
        Checks.lines(x, 0, "result a");
        whereBehind("lines() without a fault", x, -1);
        x.lines(1, 0);
        whereBehind("lines() refused by 1", x, -1);
        x.lines(0, 1);
        whereBehind("lines() refused by 2", x, -1);
        x.part(-1);
        whereBehind("part()", x, -1);
        x.grant(0, 0);
        whereBehind("grant()", x, -1);
        x.meant(0, 0, false);
        whereBehind("meant()", x, -1);
        x.way(0, 0);
        whereBehind("way()", x, -1);
        x.cure();
        whereBehind("cure()", x, -1);
        x.without(0, 0);
        whereBehind("without()", x, -1);
        x.key();
        whereBehind("key()", x, -1);
    }

    private static void line() {
        CHECKS.about("8: what 0 its kind (0 get, 1 let, 2 ask, 3 put, 4 wash, 5 result), 1 RIGHT, PART or how many a let is from (0 of a result)");
        RightsHouse x = tenParts(0);
        Checks.lines(x, 9, "get 15 to h;get 0 to a;let h from g;let a from b,c,d,d;ask 9 with h to g;ask 0 with a to b;put h by 15;"
            + "put a by 0;wash h of 15;wash a of 0;result h;result a");
        int[][] want = {{0, 15, 7, -1}, {0, 0, 0, -1}, {1, 1, 7, 6}, {1, 4, 0, 1}, {2, 9, 7, 6}, {2, 0, 0, 1}, {3, 15, 7, -1},
            {3, 0, 0, -1}, {4, 15, 7, -1}, {4, 0, 0, -1}, {5, 0, 7, -1}, {5, 0, 0, -1}};
        for (int k = 0; k < 12; k++) {
            CHECKS.due("line(9, " + k + ", 0)", x.line(9, k, 0), want[k][0]);
            CHECKS.due("line(9, " + k + ", 1)", x.line(9, k, 1), want[k][1]);
        }
        CHECKS.about("8: 2 its first NAME, 3 its second (of a let the first behind from; NONE without)");
        for (int k = 0; k < 12; k++) {
            CHECKS.due("line(9, " + k + ", 2)", x.line(9, k, 2), want[k][2]);
            CHECKS.due("line(9, " + k + ", 3)", x.line(9, k, 3), want[k][3]);
        }
        CHECKS.about("8: NONE");
        int[][] wrong = {{-1, 0, 0}, {10, 0, 0}, {MIN, 0, 0}, {MAX, 0, 0}, {0, 0, 0}, {9, -1, 0}, {9, 12, 0}, {9, MIN, 0},
            {9, MAX, 0}, {9, 0, -1}, {9, 0, 4}, {9, 0, MIN}, {9, 0, MAX}};
        for (int[] w : wrong) {
            CHECKS.due("line(" + w[0] + ", " + w[1] + ", " + w[2] + ")", x.line(w[0], w[1], w[2]), -1);
        }
    }

    private static void meant() {
        CHECKS.about("9: A SECRET and a DOOR are MEANT, or no more: true");
        RightsHouse x = new RightsHouse();
        CHECKS.allowed("meant(3, 4, false) of one that isn't", x, x.meant(3, 4, false));
        CHECKS.due("count(3)", x.count(3), 0);
        CHECKS.allowed("meant(0, 0, true)", x, x.meant(0, 0, true));
        CHECKS.allowed("meant(0, 0, true) of one that is", x, x.meant(0, 0, true));
        CHECKS.due("count(3) of one told twice", x.count(3), 1);
        CHECKS.allowed("meant(15, 15, true)", x, x.meant(15, 15, true));
        CHECKS.allowed("meant(0, 15, true)", x, x.meant(0, 15, true));
        CHECKS.allowed("meant(15, 0, true)", x, x.meant(15, 0, true));
        CHECKS.due("count(3) of four", x.count(3), 4);
        CHECKS.allowed("meant(0, 15, false)", x, x.meant(0, 15, false));
        CHECKS.due("count(3) of three", x.count(3), 3);
        CHECKS.allowed("meant(0, 15, false) once more", x, x.meant(0, 15, false));
        CHECKS.due("count(3) of three still", x.count(3), 3);
        CHECKS.allowed("meant(15, 15, false)", x, x.meant(15, 15, false));
        CHECKS.due("count(3) of two", x.count(3), 2);
        CHECKS.allowed("meant(15, 15, true)", x, x.meant(15, 15, true));
        CHECKS.about("9: false (2)");
        int[] wrong = {-1, 16, 32, MIN, MAX};
        for (int number : wrong) {
            CHECKS.denied("meant(" + number + ", 0, true)", x, x.meant(number, 0, true), 2);
            CHECKS.denied("meant(0, " + number + ", true)", x, x.meant(0, number, true), 2);
            CHECKS.denied("meant(" + number + ", 15, false)", x, x.meant(number, 15, false), 2);
            CHECKS.denied("meant(15, " + number + ", false)", x, x.meant(15, number, false), 2);
        }
        CHECKS.due("count(3) behind them", x.count(3), 3);
    }

    private static void allMeant() {
        CHECKS.about("9: A SECRET and a DOOR are MEANT, of every pair");
        RightsHouse x = Checks.everyLeak();
        for (int pair = 0; pair < 256; pair++) {
            x.meant(pair / 16, pair % 16, true);
            if (pair % 51 == 0) {
                CHECKS.due("misuse(false) with " + (pair + 1) + " meant", x.misuse(false), 255 - pair);
                CHECKS.due("misuse(true) with " + (pair + 1) + " meant", x.misuse(true), pair + 1);
                int next = pair + 1;
                CHECKS.due("wrong(0)", x.wrong(0), next == 256 ? -1 : 100 * (next / 16) + next % 16);
            }
        }
        CHECKS.due("count(3)", x.count(3), 256);
        CHECKS.taken("cure()", x, x.cure(), 0);
        CHECKS.refused("key()", x, x.key(), 5);
    }

    private static void held() {
        RightsHouse x = tenParts(65535);
        Checks.lines(x, 0, "get 15 to a;ask 9 with a to h;result h;put h by 15");
        Checks.lines(x, 9, "result a");
        CHECKS.about("10: SECRETS that a NAME of a PART can hold, as bits; NONE");
        CHECKS.due("holds(0, 0)", x.holds(0, 0), 1 << 15);
        CHECKS.due("holds(0, 7)", x.holds(0, 7), 1 << 15);
        CHECKS.due("holds(9, 0)", x.holds(9, 0), 1 << 15);
        CHECKS.due("holds(9, 7)", x.holds(9, 7), 0);
        int[] none = {-1, 10, MIN, MAX};
        for (int part : none) {
            CHECKS.due("holds(" + part + ", 0)", x.holds(part, 0), -1);
        }
        int[] noName = {-1, 8, MIN, MAX};
        for (int name : noName) {
            CHECKS.due("holds(0, " + name + ")", x.holds(0, name), -1);
            CHECKS.due("holds(9, " + name + ")", x.holds(9, name), -1);
        }
        CHECKS.about("11: SECRETS of a PART's RESULT, as bits; NONE");
        CHECKS.due("result(0)", x.result(0), 1 << 15);
        CHECKS.due("result(9)", x.result(9), 1 << 15);
        CHECKS.due("result(8)", x.result(8), 0);
        for (int part : none) {
            CHECKS.due("result(" + part + ")", x.result(part), -1);
        }
        CHECKS.about("12: Whether a PART is ASKED: 1, 0; NONE");
        CHECKS.due("asked(0)", x.asked(0), 1);
        CHECKS.due("asked(8)", x.asked(8), 0);
        CHECKS.due("asked(9)", x.asked(9), 1);
        for (int part : none) {
            CHECKS.due("asked(" + part + ")", x.asked(part), -1);
        }
        CHECKS.about("13: SECRETS that come to a DOOR, as bits; NONE");
        CHECKS.due("door(0)", x.door(0), 0);
        CHECKS.due("door(15)", x.door(15), 1 << 15);
        int[] noDoor = {-1, 16, 32, MIN, MAX};
        for (int door : noDoor) {
            CHECKS.due("door(" + door + ")", x.door(door), -1);
        }
    }

    private static void leaksAndWrong() {
        RightsHouse x = Checks.everyLeak();
        CHECKS.about("14: How many LEAKS there are");
        CHECKS.due("leaks() of none", tenParts(65535).leaks(), 0);
        CHECKS.due("leaks() of all", x.leaks(), 256);
        CHECKS.about("15: How many of them are MISUSE (or SERVICE)");
        CHECKS.due("misuse(false) of all", x.misuse(false), 256);
        CHECKS.due("misuse(true) of none", x.misuse(true), 0);
        CHECKS.about("16: The i-th MISUSE, by 100 times the SECRET and the DOOR: that number");
        CHECKS.due("wrong(0)", x.wrong(0), 0);
        CHECKS.due("wrong(15)", x.wrong(15), 15);
        CHECKS.due("wrong(16)", x.wrong(16), 100);
        CHECKS.due("wrong(255)", x.wrong(255), 1515);
        x.meant(0, 0, true);
        x.meant(15, 15, true);
        CHECKS.due("wrong(0) with two meant", x.wrong(0), 1);
        CHECKS.due("wrong(253) with two meant", x.wrong(253), 1514);
        CHECKS.about("16: NONE");
        CHECKS.due("wrong(254) with two meant", x.wrong(254), -1);
        int[] wrong = {-1, 256, MIN, MAX};
        for (int i : wrong) {
            CHECKS.due("wrong(" + i + ")", x.wrong(i), -1);
        }
        CHECKS.due("wrong(0) of none", new RightsHouse().wrong(0), -1);
    }

    private static void wayAndStep() {
        RightsHouse x = Checks.house(Checks.bits(0, 1, 15), "get 0 to a;let b from a;put b by 1;get 15 to c;put c by 15;put a by 3");
        CHECKS.about("18: NoSuchElementException if there is none such");
        CHECKS.noStep("step(0) before any way()", x, 0);
        x.way(1, 1);
        CHECKS.noStep("step(0) behind a way() that told -2", x, 0);
        x.way(16, 1);
        CHECKS.noStep("step(0) behind a way() that was refused", x, 0);
        CHECKS.about("17: WAY of a LEAK: how many LINES");
        CHECKS.taken("way(0, 1)", x, x.way(0, 1), 3);
        CHECKS.taken("way(15, 15)", x, x.way(15, 15), 2);
        x.meant(15, 15, true);
        CHECKS.taken("way(15, 15) that is meant", x, x.way(15, 15), 2);
        CHECKS.about("17: -2 if there is none such");
        CHECKS.taken("way(0, 3): no right", x, x.way(0, 3), -2);
        CHECKS.taken("way(0, 15): never put there", x, x.way(0, 15), -2);
        x.grant(0, Checks.bits(1, 15));
        CHECKS.taken("way(0, 1): no right to get it", x, x.way(0, 1), -2);
        x.grant(0, Checks.bits(0, 1, 15));
        CHECKS.taken("way(14, 0): never got", x, x.way(14, 0), -2);
        CHECKS.about("17: NONE (2)");
        int[] wrong = {-1, 16, 32, MIN, MAX};
        for (int number : wrong) {
            CHECKS.refused("way(" + number + ", 1)", x, x.way(number, 1), 2);
            CHECKS.refused("way(0, " + number + ")", x, x.way(0, number), 2);
        }
        CHECKS.about("18: LINE i of the latest way() that told more than 0");
        CHECKS.steps("behind ways that told less", x, 3, 4);
        x.way(0, 1);
        CHECKS.steps("of a longer one", x, 0, 1, 2);
        x.way(15, 15);
        CHECKS.steps("of a shorter one", x, 3, 4);
        Checks.lines(x, 0, "result a");
        x.grant(0, 0);
        CHECKS.steps("behind other lines and grants", x, 3, 4);
        CHECKS.about("18: NoSuchElementException if there is none such, of i");
        int[] none = {-1, 2, 3, MIN, MAX};
        for (int i : none) {
            CHECKS.noStep("step(" + i + ")", x, i);
        }
    }

    private static void rightsOfParts() {
        RightsHouse x = tenParts(Checks.bits(0, 15));
        Checks.lines(x, 0, "ask 9 with a to b;put a by 15;get 1 to b");
        Checks.lines(x, 9, "ask 0 with a to b;put a by 0;put a by 2");
        int[] none = {-1, 10, MIN, MAX};
        CHECKS.about("19: NEEDED of a PART, as bits; NONE");
        CHECKS.due("needed(0)", x.needed(0), Checks.bits(1, 15));
        CHECKS.due("needed(9)", x.needed(9), Checks.bits(0, 2));
        CHECKS.about("20: IDLE of a PART, as bits; NONE");
        CHECKS.due("idle(0)", x.idle(0), Checks.bits(0));
        CHECKS.due("idle(9)", x.idle(9), Checks.bits(15));
        CHECKS.about("21: LACKING of a PART, as bits; NONE");
        CHECKS.due("lacking(0)", x.lacking(0), Checks.bits(1));
        CHECKS.due("lacking(9)", x.lacking(9), Checks.bits(2));
        CHECKS.about("22: HELPED of a PART, as bits; NONE");
        x.grant(0, Checks.bits(15));
        x.grant(9, Checks.bits(0));
        CHECKS.due("helped(0)", x.helped(0), Checks.bits(0));
        CHECKS.due("helped(9)", x.helped(9), Checks.bits(15));
        for (int part : none) {
            CHECKS.about("19 to 22: NONE of part " + part);
            CHECKS.due("needed(" + part + ")", x.needed(part), -1);
            CHECKS.due("idle(" + part + ")", x.idle(part), -1);
            CHECKS.due("lacking(" + part + ")", x.lacking(part), -1);
            CHECKS.due("helped(" + part + ")", x.helped(part), -1);
        }
    }

    private static void trim() {
        CHECKS.about("23: IDLE GRANTS of all PARTS go: how many");
        RightsHouse x = tenParts(65535);
        CHECKS.due("count(2)", x.count(2), 160);
        Checks.lines(x, 0, "ask 9 with a to b;get 0 to b;put b by 15");
        Checks.lines(x, 9, "get 15 to b");
        Checks.lines(x, 8, "get 7 to b");
        CHECKS.due("trim()", x.trim(), 157);
        CHECKS.due("count(2) behind it", x.count(2), 3);
        CHECKS.due("door(15) behind it", x.door(15), 1);
        CHECKS.due("idle(8) behind it, not asked", x.idle(8), 0);
        CHECKS.due("trim() once more", x.trim(), 0);
        x.grant(0, 1);
        CHECKS.due("trim() where one lacks", x.trim(), 0);
        CHECKS.due("lacking(0) behind it", x.lacking(0), 1 << 15);
        x = tenParts(65535);
        CHECKS.due("trim() of all", x.trim(), 160);
        CHECKS.due("count(2) of none", x.count(2), 0);
        CHECKS.due("trim() of none", x.trim(), 0);
        CHECKS.due("trim() of a new object", new RightsHouse().trim(), 0);
    }

    /** Ten or eleven needed grants: secret 0 comes to door 9. */
    private static RightsHouse needing(String more) {
        return Checks.house(2047, "get 0 to a;put a by 9;get 1 to b;get 2 to b;get 3 to b;get 4 to b;get 5 to b;get 6 to b;get 7 to b;"
            + "get 8 to b" + more);
    }

    private static void cure() {
        CHECKS.about("24: CURE: how many GRANTS (0 without MISUSE)");
        RightsHouse x = new RightsHouse();
        CHECKS.taken("cure() of a new object", x, x.cure(), 0);
        x = needing("");
        CHECKS.taken("cure() among ten", x, x.cure(), 1);
        CHECKS.about("24: (Nothing is taken away.)");
        CHECKS.due("count(2)", x.count(2), 11);
        CHECKS.due("idle(0)", x.idle(0), 1 << 10);
        CHECKS.due("misuse(false)", x.misuse(false), 1);
        CHECKS.taken("cure() once more", x, x.cure(), 1);
        x = tenParts(0);
        x.grant(9, 1 << 15);
        Checks.lines(x, 0, "ask 9 with a to b");
        Checks.lines(x, 9, "get 15 to b;put b by 15");
        CHECKS.taken("cure() of the last right of the last part", x, x.cure(), 1);
        CHECKS.due("its cured(0)", x.cured(0), 915);
        CHECKS.about("24: NONE: 6 (more than 10)");
        x = needing(";get 10 to b");
        CHECKS.refused("cure() among eleven", x, x.cure(), 6);
        x.meant(0, 9, true);
        CHECKS.taken("cure() among eleven without misuse", x, x.cure(), 0);
        CHECKS.about("24: 5 (none does)");
        x = Checks.house(3, "get 0 to a;get 1 to a;put a by 1");
        x.meant(0, 1, true);
        CHECKS.refused("cure() that would end a service", x, x.cure(), 5);
        CHECKS.due("count(2) behind it", x.count(2), 2);
        x = needing(";get 10 to b;get 9 to a");
        x.meant(0, 9, true);
        CHECKS.due("misuse(false): 9 to its own door", x.misuse(false), 1);
        CHECKS.refused("cure() among eleven of which none does", x, x.cure(), 6);
        x.grant(0, 1023);
        CHECKS.refused("cure() among ten of which none does", x, x.cure(), 5);
    }

    private static void cured() {
        CHECKS.about("25: NONE");
        RightsHouse x = Checks.house(3, "get 0 to a;put a by 0;get 1 to b;put b by 1");
        CHECKS.due("cured(0) before any cure()", x.cured(0), -1);
        x.cure();
        CHECKS.due("cured(-1)", x.cured(-1), -1);
        CHECKS.due("cured(2)", x.cured(2), -1);
        CHECKS.due("cured(MIN)", x.cured(MIN), -1);
        CHECKS.due("cured(MAX)", x.cured(MAX), -1);
        CHECKS.about("25: The i-th of the latest cure() that told a number, by 100 times the PART and the RIGHT");
        CHECKS.due("cured(0)", x.cured(0), 0);
        CHECKS.due("cured(1)", x.cured(1), 1);
        Checks.lines(x, 0, "get 0 to a;get 1 to a;put a by 1");
        x.meant(0, 1, true);
        CHECKS.refused("cure() by 5", x, x.cure(), 5);
        CHECKS.due("cured(1) behind one by 5", x.cured(1), 1);
        x.grant(0, 2047);
        Checks.lines(x, 0, "get 0 to a;get 1 to a;put a by 1;get 2 to a;get 3 to a;get 4 to a;get 5 to a;get 6 to a;get 7 to a;get 8 to a;"
            + "get 9 to a;get 10 to a");
        CHECKS.refused("cure() by 6", x, x.cure(), 6);
        CHECKS.due("cured(0) behind one by 6", x.cured(0), 0);
        CHECKS.due("cured(1) behind one by 6", x.cured(1), 1);
        x.meant(0, 1, false);
        x.grant(0, 2);
        CHECKS.taken("cure() that tells 1", x, x.cure(), 1);
        CHECKS.due("cured(0) of one", x.cured(0), 1);
        CHECKS.due("cured(1) of one", x.cured(1), -1);
        x.grant(0, 0);
        CHECKS.taken("cure() that tells 0", x, x.cure(), 0);
        CHECKS.due("cured(0) of none", x.cured(0), -1);
    }

    private static void without() {
        CHECKS.about("26: How many MISUSES there would be if a GRANT were taken away (or given)");
        RightsHouse x = tenParts(0);
        x.grant(0, Checks.bits(0, 15));
        Checks.lines(x, 0, "get 0 to a;put a by 15;ask 9 with a to b");
        Checks.lines(x, 9, "put a by 0;put a by 15");
        CHECKS.due("misuse(false)", x.misuse(false), 1);
        CHECKS.taken("without(0, 0), taken away", x, x.without(0, 0), 0);
        CHECKS.taken("without(0, 15), taken away", x, x.without(0, 15), 0);
        CHECKS.taken("without(9, 0), given", x, x.without(9, 0), 2);
        CHECKS.taken("without(9, 15), given, the leak is there", x, x.without(9, 15), 1);
        CHECKS.taken("without(8, 0), given, not asked", x, x.without(8, 0), 1);
        x.meant(0, 0, true);
        CHECKS.taken("without(9, 0), given, meant", x, x.without(9, 0), 1);
        CHECKS.about("26: (Nothing is changed.)");
        CHECKS.due("count(2)", x.count(2), 2);
        CHECKS.due("misuse(false)", x.misuse(false), 1);
        CHECKS.due("idle(9)", x.idle(9), 0);
        CHECKS.about("26: NONE: 1");
        int[] none = {-1, 10, MIN, MAX};
        for (int part : none) {
            CHECKS.refused("without(" + part + ", 0)", x, x.without(part, 0), 1);
            CHECKS.refused("without(" + part + ", 16)", x, x.without(part, 16), 1);
        }
        CHECKS.about("26: 2");
        int[] wrong = {-1, 16, 32, MIN, MAX};
        for (int right : wrong) {
            CHECKS.refused("without(0, " + right + ")", x, x.without(0, right), 2);
            CHECKS.refused("without(9, " + right + ")", x, x.without(9, right), 2);
        }
    }

    private static void key() {
        CHECKS.about("27: The GRANT (by 100 times the PART and the RIGHT) without which most MISUSES would be gone");
        RightsHouse x = tenParts(0);
        x.grant(9, 65535);
        x.grant(0, Checks.bits(0, 1));
        Checks.lines(x, 0, "get 0 to a;get 1 to a;ask 9 with a to b");
        Checks.lines(x, 9, "put a by 15");
        CHECKS.taken("the last right of the last part", x, x.key(), 915);
        CHECKS.about("27: of as good ones the least");
        Checks.lines(x, 9, "put a by 15;put a by 14");
        CHECKS.taken("two gets and two puts", x, x.key(), 0);
        x.meant(0, 14, true);
        CHECKS.taken("right 1 alone ends two, and so does door 15", x, x.key(), 1);
        x.meant(1, 14, true);
        CHECKS.taken("door 15 ends two", x, x.key(), 915);
        CHECKS.about("27: -2 if none would");
        Checks.lines(x, 0, "get 0 to a;put a by 1;ask 9 with b to c");
        Checks.lines(x, 9, "get 0 to b;put b by 1");
        CHECKS.taken("where two do the same", x, x.key(), -2);
        CHECKS.about("27: NONE (5: no MISUSE)");
        x.meant(0, 1, true);
        CHECKS.refused("key() of a service", x, x.key(), 5);
        x = tenParts(65535);
        CHECKS.refused("key() of no leak", x, x.key(), 5);
        x = new RightsHouse();
        CHECKS.refused("key() of a new object", x, x.key(), 5);
    }

    private static void count() {
        CHECKS.about("28: 0 PARTS, 1 LINES in all, 2 GRANTS in all, 3 pairs that are MEANT, 4 bytes of THE TAPE");
        RightsHouse x = tenParts(65535);
        for (int part = 0; part < 10; part++) {
            Checks.lines(x, part, TWELVE);
        }
        x.meant(0, 15, true);
        x.meant(15, 0, true);
        Checks.feed(x, " ".repeat(300));
        int[] full = {10, 120, 160, 2, 300};
        for (int what = 0; what < 5; what++) {
            CHECKS.due("count(" + what + ")", x.count(what), full[what]);
        }
        CHECKS.about("28: NONE for others");
        int[] others = {-1, 5, MIN, MAX};
        for (int what : others) {
            CHECKS.due("count(" + what + ")", x.count(what), -1);
        }
    }

    private static void trouble() {
        CHECKS.about("29: TROUBLE");
        RightsHouse x = new RightsHouse();
        CHECKS.due("trouble() of a new object", x.trouble(), 0);
        x.part(-1);
        CHECKS.due("trouble()", x.trouble(), 2);
        CHECKS.due("trouble() is told again", x.trouble(), 2);
        x.part(0);
        CHECKS.due("trouble() of a later call", x.trouble(), 0);
    }

    private static void lastCall() {
        CHECKS.about("An object is used for at most 512 calls after it has been made");
        RightsHouse x = new RightsHouse();
        x.part(1);
        x.feed(0x67657430, 0x746F2061, 0x3B707574, 0x20612062, 0x79203020);
        x.lines(0, 20);
        for (int call = 4; call <= 511; call += 4) {
            CHECKS.due("way(0, 0), call " + call, x.way(0, 0), 2);
            CHECKS.due("cure(), call " + (call + 1), x.cure(), 1);
            CHECKS.due("key(), call " + (call + 2), x.key(), 0);
            CHECKS.due("without(0, 0), call " + (call + 3), x.without(0, 0), 0);
        }
        CHECKS.due("step(1), the 512th call", Checks.step(x, 1), 1);
    }

    public static void main(String[] args) {
        constant();
        newObject();
        part();
        grant();
        feed();
        lines();
        formerLineIsGone();
        tellsWhatIsNow();
        linesRefused();
        fault();
        where();
        line();
        meant();
        allMeant();
        held();
        leaksAndWrong();
        wayAndStep();
        rightsOfParts();
        trim();
        cure();
        cured();
        without();
        key();
        count();
        trouble();
        lastCall();
        CHECKS.end();
    }
}
