/** Terms III, IV and V: what is held, leaks, ways, rights, the cure and troubles, at the edges of each sentence. */
public final class TermsTest {
    private static final Checks CHECKS = new Checks();

    // ---- III

    private static void anyOrder() {
        CHECKS.about("III: LINES are taken in any order, as often as can be");
        RightsHouse x = Checks.house(1, "put h by 1;let h from g;let g from f;let f from e;let e from d;let d from c;let c from b;"
            + "let b from a;get 0 to a");
        CHECKS.due("holds(0, h) behind seven lets", x.holds(0, 7), 1);
        x = new RightsHouse();
        for (int part = 0; part < 10; part++) {
            x.part(part == 9 ? 1 : 0);
        }
        for (int part = 0; part < 9; part++) {
            Checks.lines(x, part, "result b;let b from c;ask " + (part + 1) + " with d to c");
        }
        Checks.lines(x, 9, "result b;let b from a;get 0 to a");
        CHECKS.due("result(0) through ten parts", x.result(0), 1);
        CHECKS.due("holds(0, c)", x.holds(0, 2), 1);
        x = Checks.house(3, "get 0 to a;get 1 to b;let c from b;let b from a");
        CHECKS.due("holds(0, c): each let brings one at once, the first one another later", x.holds(0, 2), 3);
        x = Checks.house(3, "get 0 to a;get 1 to b;ask 0 with b to d;result c;let c from a,b;let a from b");
        CHECKS.due("holds(0, d): by a result that has one at once, another later", x.holds(0, 3), 3);
    }

    private static void leastSets() {
        CHECKS.about("III: by the least sets");
        RightsHouse x = Checks.house(65535, "let a from b;let b from a;ask 0 with a to b;result b;put a by 0", 65535, "");
        for (int name = 0; name < 8; name++) {
            CHECKS.due("holds(0, " + name + ") of a ring", x.holds(0, name), 0);
        }
        CHECKS.due("result(0) of a ring", x.result(0), 0);
        CHECKS.due("leaks() of a ring", x.leaks(), 0);
        CHECKS.due("holds(1, a) without lines", x.holds(1, 0), 0);
    }

    private static void askedAlone() {
        CHECKS.about("III: LINES count in PARTS that are ASKED alone");
        RightsHouse x = Checks.house(2, "let b from a;put b by 1;result b", 3, "get 0 to b;put b by 1;ask 0 with b to c;result b;wash a of 0");
        CHECKS.due("holds(1, b) by get", x.holds(1, 1), 0);
        CHECKS.due("holds(0, a) by its ask", x.holds(0, 0), 0);
        CHECKS.due("holds(1, c)", x.holds(1, 2), 0);
        CHECKS.due("result(1)", x.result(1), 0);
        CHECKS.due("door(1)", x.door(1), 0);
        CHECKS.due("needed(1)", x.needed(1), 0);
        Checks.lines(x, 0, "ask 1 with c to d;let b from a;put b by 1");
        CHECKS.due("holds(1, b) when asked", x.holds(1, 1), 1);
        CHECKS.due("holds(0, a) when asked", x.holds(0, 0), 1);
        CHECKS.due("door(1) when asked", x.door(1), 1);
        Checks.lines(x, 0, "let b from a;put b by 1");
        CHECKS.due("asked(1) no more", x.asked(1), 0);
        CHECKS.due("holds(1, b) no more", x.holds(1, 1), 0);
        CHECKS.due("holds(0, a) no more", x.holds(0, 0), 0);
    }

    private static void whoIsAsked() {
        CHECKS.about("III: PART 0 is, and each that an ASKED one asks");
        RightsHouse x = new RightsHouse();
        CHECKS.due("asked(0) before it is there", x.asked(0), -1);
        for (int part = 0; part < 10; part++) {
            x.part(0);
        }
        CHECKS.due("asked(0) without lines", x.asked(0), 1);
        for (int part = 9; part > 0; part--) {
            Checks.lines(x, part, "ask " + part % 9 + " with a to a;ask " + (part + 1) % 10 + " with a to a");
        }
        for (int part = 1; part < 10; part++) {
            CHECKS.due("asked(" + part + ") by none that is", x.asked(part), 0);
        }
        Checks.lines(x, 0, "ask 1 with a to a");
        for (int part = 0; part < 10; part++) {
            CHECKS.due("asked(" + part + ") in a ring of ten", x.asked(part), 1);
        }
        Checks.lines(x, 8, "result a");
        CHECKS.due("asked(8)", x.asked(8), 1);
        CHECKS.due("asked(9) behind a broken ring", x.asked(9), 0);
    }

    private static void gets() {
        CHECKS.about("III: get: the NAME has that SECRET, if the PART has the RIGHT");
        RightsHouse x = Checks.house(Checks.bits(0, 15), "get 0 to a;get 15 to a;get 1 to a;get 0 to h;ask 1 with g to g", Checks.bits(1), "get 0 to b;get 1 to c");
        CHECKS.due("holds(0, a)", x.holds(0, 0), Checks.bits(0, 15));
        CHECKS.due("holds(0, h)", x.holds(0, 7), 1);
        CHECKS.due("holds(1, b): another's right", x.holds(1, 1), 0);
        CHECKS.due("holds(1, c)", x.holds(1, 2), 2);
        x.grant(0, 2);
        CHECKS.due("holds(0, a) by other grants", x.holds(0, 0), 2);
        CHECKS.due("holds(0, h) by other grants", x.holds(0, 7), 0);
    }

    private static void lets() {
        CHECKS.about("III: let: the first has what each of the others has");
        RightsHouse x = Checks.house(31, "get 0 to b;get 1 to c;get 2 to d;get 3 to e;get 4 to f;let a from b,c,d,e;let g from f;let h from h");
        int[] held = {15, 1, 2, 4, 8, 16, 16, 0};
        for (int name = 0; name < 8; name++) {
            CHECKS.due("holds(0, " + name + ")", x.holds(0, name), held[name]);
        }
    }

    private static void asks() {
        CHECKS.about("III: ask: the other PART's a has what the NAME has");
        RightsHouse x = Checks.house(3, "get 0 to h;get 1 to g;ask 1 with h to b;ask 1 with g to c", 0, "");
        CHECKS.due("holds(1, a) of both asks", x.holds(1, 0), 3);
        CHECKS.due("holds(0, b) of one without result", x.holds(0, 1), 0);
        CHECKS.about("III: the second NAME has the other's RESULT: what each NAME of its result LINES has");
        Checks.lines(x, 1, "result a");
        CHECKS.due("result(1) of one line", x.result(1), 3);
        CHECKS.due("holds(0, b)", x.holds(0, 1), 3);
        CHECKS.due("holds(0, c)", x.holds(0, 2), 3);
        CHECKS.due("holds(0, h) is no second name", x.holds(0, 7), 1);
        Checks.lines(x, 1, "result b;result h;get 2 to h;get 3 to b");
        x.grant(1, 12);
        CHECKS.due("result(1) of two lines", x.result(1), 12);
        CHECKS.due("holds(0, b) of two lines", x.holds(0, 1), 12);
        Checks.lines(x, 1, "get 2 to h");
        CHECKS.due("result(1) of no line", x.result(1), 0);
        CHECKS.due("holds(0, b) of no line", x.holds(0, 1), 0);
        String[] others = {"put h by 0", "put h by 15", "wash h of 0", "let a from h", "let h from h", "ask 1 with h to a"};
        for (String other : others) {
            Checks.lines(x, 1, "get 2 to h;" + other);
            CHECKS.due("result(1) of '" + other + "'", x.result(1), 0);
        }
    }

    private static void washes() {
        CHECKS.about("III: what that NAME of that PART would have by let");
        RightsHouse x = Checks.house(Checks.bits(0, 15), "get 0 to a;get 15 to a;let b from a;wash b of 15;let c from a;let d from b");
        CHECKS.due("holds(0, b)", x.holds(0, 1), 1);
        CHECKS.due("holds(0, c): another name", x.holds(0, 2), Checks.bits(0, 15));
        CHECKS.due("holds(0, d): behind it", x.holds(0, 3), 1);
        Checks.lines(x, 0, "get 0 to a;get 15 to a;let b from a;wash b of 15;wash b of 0;let c from a");
        CHECKS.due("holds(0, b) of two washes", x.holds(0, 1), 0);
        Checks.lines(x, 0, "get 0 to a;get 15 to a;let b from a");
        CHECKS.due("holds(0, b) when the washes are gone", x.holds(0, 1), Checks.bits(0, 15));
        CHECKS.about("III: by ask");
        x = Checks.house(0, "ask 1 with a to b;wash b of 0;ask 1 with a to c;wash a of 0", Checks.bits(0, 1), "get 0 to b;get 1 to b;result b");
        CHECKS.due("holds(0, b)", x.holds(0, 1), 2);
        CHECKS.due("holds(0, c)", x.holds(0, 2), 3);
        CHECKS.due("holds(1, b): the same name of another part", x.holds(1, 1), 3);
        CHECKS.due("result(1)", x.result(1), 3);
        CHECKS.about("III: (as a, too, by being asked)");
        x = Checks.house(3, "get 0 to b;get 1 to b;ask 1 with b to c", 4, "wash a of 1;put a by 2");
        CHECKS.due("holds(1, a)", x.holds(1, 0), 1);
        CHECKS.due("door(2)", x.door(2), 1);
        CHECKS.about("III: wherever the LINE stands");
        x = Checks.house(1, "wash b of 0;get 0 to a;let b from a");
        CHECKS.due("holds(0, b), the wash first", x.holds(0, 1), 0);
        Checks.lines(x, 0, "get 0 to a;let b from a;wash b of 0");
        CHECKS.due("holds(0, b), the wash last", x.holds(0, 1), 0);
        CHECKS.about("III: (a get of it brings it all the same)");
        Checks.lines(x, 0, "wash b of 0;get 0 to b;let c from b;wash b of 0");
        CHECKS.due("holds(0, b)", x.holds(0, 1), 1);
        CHECKS.due("holds(0, c)", x.holds(0, 2), 1);
    }

    private static void leaks() {
        CHECKS.about("III: LEAKS: a SECRET and a DOOR: some ASKED PART that has the RIGHT of the DOOR puts a NAME by it that holds the SECRET");
        RightsHouse x = Checks.house(3, "get 0 to a;put a by 1;put a by 1;put b by 1;put a by 2;ask 1 with a to b", 6, "put a by 1;put b by 2",
            4, "get 2 to b;put b by 2");
        CHECKS.due("leaks() by several puts is one", x.leaks(), 1);
        CHECKS.due("door(1)", x.door(1), 1);
        CHECKS.due("door(2): who puts it hasn't the right", x.door(2), 0);
        x.grant(0, 7);
        CHECKS.due("leaks() by two doors", x.leaks(), 2);
        x.grant(0, 1);
        CHECKS.due("leaks(): the other part's put is left", x.leaks(), 1);
        x.grant(1, 0);
        CHECKS.due("leaks() without the rights", x.leaks(), 0);
        x = Checks.house(65535, "get 0 to a;result a;wash a of 15;let h from a;ask 0 with a to b");
        CHECKS.due("leaks() without a put", x.leaks(), 0);
        x = Checks.everyLeak();
        CHECKS.due("leaks() of every pair", x.leaks(), 256);
        CHECKS.due("door(0) of every pair", x.door(0), 65535);
        CHECKS.due("door(15) of every pair", x.door(15), 65535);
    }

    private static void misuseAndService() {
        CHECKS.about("III: MISUSE: LEAKS that aren't MEANT. SERVICE: LEAKS that are");
        RightsHouse x = Checks.house(Checks.bits(0, 1, 15), "get 0 to a;get 15 to b;put a by 1;put b by 1;put a by 15");
        int[] misuses = {3, 2, 1, 0};
        int[][] pairs = {{0, 1}, {15, 1}, {0, 15}};
        for (int told = 0; told <= 3; told++) {
            CHECKS.due("misuse(false) with " + told + " meant", x.misuse(false), misuses[told]);
            CHECKS.due("misuse(true) with " + told + " meant", x.misuse(true), told);
            CHECKS.due("leaks() with " + told + " meant", x.leaks(), 3);
            x.meant(pairs[told % 3][0], pairs[told % 3][1], true);
        }
        x.meant(1, 0, true);
        CHECKS.due("misuse(true): meant and no leak", x.misuse(true), 3);
        x.grant(0, 0);
        CHECKS.due("misuse(true) without leaks", x.misuse(true), 0);
        CHECKS.due("misuse(false) without leaks", x.misuse(false), 0);
    }

    private static void way(String what, RightsHouse x, int secret, int door, int... want) {
        CHECKS.taken(what, x, x.way(secret, door), want.length);
        CHECKS.steps(what, x, want);
    }

    private static void ways() {
        CHECKS.about("III: WAY of a LEAK: the fewest LINES through which the SECRET comes from a get to a put");
        RightsHouse x = Checks.house(1, "get 0 to a;put a by 0");
        way("the shortest that there can be", x, 0, 0, 0, 1);
        Checks.lines(x, 0, "get 0 to a;let b from a;put b by 0;let c from b;put c by 0;get 0 to c");
        way("two lines rather than three", x, 0, 0, 5, 4);
        CHECKS.about("III: then each a let, an ask (from its first NAME to the other PART's a)");
        x = Checks.house(1, "get 0 to b;let c from b;ask 1 with c to d", 2, "put a by 1");
        way("let and ask", x, 0, 1, 0, 1, 2, 100);
        CHECKS.about("III: or a result and right behind it an ask of that PART (to its second NAME)");
        x = Checks.house(2, "ask 1 with a to b;put b by 1", 1, "get 0 to c;result c");
        way("result and ask", x, 0, 1, 100, 101, 0, 1);
        x = Checks.house(3, "get 0 to b;ask 0 with b to c;result a;put c by 1");
        way("in and out by the same ask", x, 0, 1, 0, 1, 2, 1, 3);
        x = Checks.house(2, "put d by 1;ask 1 with a to c;let d from c", 0, "ask 2 with a to b;result b", 1, "get 0 to b;result b");
        way("two results", x, 0, 1, 200, 201, 100, 101, 1, 2, 0);
        CHECKS.about("III: each by its PART and its place");
        x = new RightsHouse();
        for (int part = 0; part < 10; part++) {
            x.part(part == 9 ? 3 : 0);
        }
        Checks.lines(x, 0, "ask 9 with a to b");
        Checks.lines(x, 9, "result a;".repeat(10) + "get 0 to b;put b by 1");
        way("the last places of the last part", x, 0, 1, 910, 911);
        Checks.lines(x, 9, "result a;".repeat(9) + "put c by 1;let c from b;get 0 to b");
        way("a let of the last part", x, 0, 1, 911, 910, 909);
    }

    private static void nearestGets() {
        CHECKS.about("III: the fewest LINES through which the SECRET comes from a get to a put");
        RightsHouse x = Checks.house(3, "get 0 to a;put a by 1;get 0 to b;let a from b");
        way("the first of two gets is nearer", x, 0, 1, 0, 1);
        Checks.lines(x, 0, "get 0 to b;let a from b;put a by 1;get 0 to a");
        way("the second of two gets is nearer", x, 0, 1, 3, 2);
        Checks.lines(x, 0, "get 0 to b;let a from b;get 0 to a;put a by 1;get 0 to c;let b from c");
        way("the second of three gets is nearest", x, 0, 1, 2, 3);
        Checks.lines(x, 0, "get 0 to c;get 0 to a;put a by 1;get 0 to d");
        way("other gets don't come there", x, 0, 1, 1, 2);
    }

    private static void firstWays() {
        CHECKS.about("III: of as short ones the first by LINES from the beginning (100 times the PART and the place, the least first)");
        RightsHouse x = Checks.house(3, "get 0 to a;get 0 to a;put a by 1;put a by 1");
        way("the first get and put", x, 0, 1, 0, 2);
        Checks.lines(x, 0, "put b by 1;put c by 1;get 0 to c;get 0 to b");
        way("the first get before the first put", x, 0, 1, 2, 1);
        Checks.lines(x, 0, "put b by 1;put c by 1;get 0 to a;let c from a;let b from a");
        way("the first let before the first put", x, 0, 1, 2, 3, 1);
        x = Checks.house(3, "result a;".repeat(8) + "ask 1 with b to c;get 0 to b;put b by 1", 3, "get 0 to c;put c by 1");
        way("place 9 of part 0 before place 0 of part 1", x, 0, 1, 9, 10);
        x = Checks.house(2, "ask 2 with a to b;ask 1 with a to b;put b by 1", 1, "let a from c;get 0 to c;result c", 1, "get 0 to c;result c");
        way("part 1 before part 2, though its place is later", x, 0, 1, 101, 102, 1, 2);
    }

    // ---- IV

    private static void needs() {
        CHECKS.about("IV: NEEDED of a PART: RIGHTS of its get and put LINES, if it is ASKED");
        RightsHouse x = Checks.house(0, "get 0 to a;put a by 15;wash a of 3;let a from b;result a;ask 1 with a to b", 0, "", 0, "get 0 to a");
        CHECKS.due("needed(0)", x.needed(0), Checks.bits(0, 15));
        CHECKS.due("needed(1) without lines", x.needed(1), 0);
        CHECKS.due("needed(2), not asked", x.needed(2), 0);
        CHECKS.about("IV: IDLE: GRANTS not NEEDED");
        x.grant(0, 65535);
        x.grant(1, 65535);
        x.grant(2, 1);
        CHECKS.due("idle(0)", x.idle(0), 65535 & ~Checks.bits(0, 15));
        CHECKS.due("idle(1)", x.idle(1), 65535);
        CHECKS.due("idle(2), not asked", x.idle(2), 1);
        x.grant(0, Checks.bits(0, 15));
        CHECKS.due("idle(0) of needed ones alone", x.idle(0), 0);
        CHECKS.about("IV: LACKING: NEEDED ones not GRANTED");
        CHECKS.due("lacking(0) of granted ones alone", x.lacking(0), 0);
        x.grant(0, 1);
        CHECKS.due("lacking(0) of one", x.lacking(0), 1 << 15);
        x.grant(0, 0);
        x.grant(2, 0);
        CHECKS.due("lacking(0) of all", x.lacking(0), Checks.bits(0, 15));
        CHECKS.due("lacking(2), not asked", x.lacking(2), 0);
    }

    private static void helped() {
        CHECKS.about("IV: HELPED: RIGHTS that an ASKED PART hasn't");
        RightsHouse x = Checks.house(1, "ask 1 with a to b", 7, "put a by 0;put a by 1;get 2 to b", 0, "ask 1 with a to b");
        CHECKS.due("helped(0)", x.helped(0), Checks.bits(1, 2));
        CHECKS.due("helped(2), not asked", x.helped(2), 0);
        x.grant(0, 65535);
        CHECKS.due("helped(0) that has all", x.helped(0), 0);
        CHECKS.about("IV: but some PART that it asks (or one that this asks ..) has and NEEDS");
        x.grant(0, 0);
        x.grant(1, Checks.bits(1, 3));
        CHECKS.due("helped(0): has 1 and 3, needs 0, 1 and 2", x.helped(0), Checks.bits(1));
        CHECKS.due("helped(1): asks none", x.helped(1), 0);
        x = Checks.house(1, "get 0 to a;ask 1 with a to b", 0, "let b from a");
        CHECKS.due("helped(1): is asked by one that has and needs", x.helped(1), 0);
        x = Checks.house(1, "get 0 to a;ask 1 with a to b;ask 2 with a to b", 0, "ask 0 with a to b", 4, "put a by 2");
        CHECKS.due("helped(1): by one that 0 asks", x.helped(1), Checks.bits(0, 2));
        CHECKS.due("helped(2): asks none", x.helped(2), 0);
        x = new RightsHouse();
        for (int part = 0; part < 10; part++) {
            x.part(part == 9 ? 1 << 15 : 0);
        }
        for (int part = 0; part < 9; part++) {
            Checks.lines(x, part, "ask " + (part + 1) + " with a to b");
        }
        Checks.lines(x, 9, "put a by 15;ask 9 with a to b");
        CHECKS.due("helped(0) by the last of ten", x.helped(0), 1 << 15);
        CHECKS.due("helped(8)", x.helped(8), 1 << 15);
        CHECKS.due("helped(9) by itself", x.helped(9), 0);
        Checks.lines(x, 4, "result a");
        CHECKS.due("helped(0) behind a broken row", x.helped(0), 0);
        CHECKS.due("helped(5), not asked", x.helped(5), 0);
    }

    private static void cure(String what, RightsHouse x, int... want) {
        CHECKS.taken(what, x, x.cure(), want.length);
        for (int i = 0; i < want.length; i++) {
            CHECKS.due(what + ", cured(" + i + ")", x.cured(i), want[i]);
        }
        CHECKS.due(what + ", cured behind the last", x.cured(want.length), -1);
    }

    /** Two misuses apart: secret 0 at door 2, secret 1 at door 3; and secrets 0 and 1 at doors 4 and 5. */
    private static RightsHouse twoApart() {
        RightsHouse x = Checks.house(63, "get 0 to a;get 1 to b;put a by 2;put b by 3;put a by 4;put b by 5");
        x.meant(0, 4, true);
        x.meant(1, 5, true);
        return x;
    }

    private static void cures() {
        CHECKS.about("IV: CURE: the fewest GRANTS (each one RIGHT of one PART) taken away so that there is no MISUSE");
        RightsHouse x = Checks.house(Checks.bits(0, 1, 2, 15), "get 0 to a;get 1 to a;get 2 to a;put a by 15");
        cure("one late right rather than three early ones", x, 15);
        x = Checks.house(1, "get 0 to a;put a by 0;ask 1 with b to c", 1, "get 0 to a;put a by 0");
        cure("the same right of two parts", x, 0, 100);
        x.grant(0, 0);
        cure("the same right of one part alone", x, 100);
        CHECKS.about("IV: and each SERVICE is still there");
        cure("both secrets are kept", twoApart(), 2, 3);
        x = Checks.house(3, "get 0 to a;put a by 1;ask 1 with b to c;put c by 1", 5, "get 0 to a;result a;put a by 2");
        x.meant(0, 1, true);
        cure("a service that comes by another way too", x, 100);
        x.grant(0, 2);
        cure("a service that comes by this way alone", x, 102);
        for (int door = 0; door < 16; door += 15) {
            x = Checks.house(Checks.bits(7, 8, door), "get 7 to a;put a by 8;put a by " + door);
            cure("no service at door " + door, x, 7);
            x.meant(7, door, true);
            cure("a service at door " + door, x, 8);
        }
    }

    private static void leastCures() {
        CHECKS.about("IV: of as few ones the least first by 100 times the PART and the RIGHT, then the second ..");
        RightsHouse x = Checks.house(15, "get 0 to a;get 1 to b;put a by 2;put b by 3");
        cure("0, 1 before 0, 3", x, 0, 1);
        x = twoApart();
        x.grant(0, 31);
        cure("0 is kept: 1, 2 before 2, 3", x, 1, 2);
        x.grant(0, 47);
        cure("1 is kept: 0, 3 before 2, 3", x, 0, 3);
        x = Checks.house(Checks.bits(15), "ask 1 with b to c;put a by 15", 1, "get 0 to b;ask 0 with b to c");
        cure("right 15 of part 0 before right 0 of part 1", x, 15);
    }

    /** Ten needed grants, each a get and a put of its own, that no less than all ten cure; then one more. */
    private static RightsHouse tenLoops(int rightsOfLast, String more) {
        return Checks.house(31, "get 0 to b;put b by 0;get 1 to c;put c by 1;get 2 to d;put d by 2;get 3 to e;put e by 3;"
            + "get 4 to f;put f by 4;ask 1 with a to a", rightsOfLast, "get 0 to b;put b by 0;get 1 to c;put c by 1;get 2 to d;"
            + "put d by 2;get 3 to e;put e by 3;get 4 to f;put f by 4" + more);
    }

    private static void tenAtMost() {
        CHECKS.about("IV: looked for among GRANTS that are NEEDED, if these are 10 at most");
        cure("ten of ten", tenLoops(31, ""), 0, 1, 2, 3, 4, 100, 101, 102, 103, 104);
        cure("ten of ten, an eleventh is granted and not needed", tenLoops(63, ""), 0, 1, 2, 3, 4, 100, 101, 102, 103, 104);
        cure("ten of ten, an eleventh is needed and not granted", tenLoops(31, ";get 5 to g"), 0, 1, 2, 3, 4, 100, 101, 102, 103, 104);
        RightsHouse x = tenLoops(63, ";get 5 to g");
        CHECKS.refused("cure() of eleven", x, x.cure(), 6);
        CHECKS.about("IV: none without MISUSE");
        for (int right = 0; right < 5; right++) {
            x.meant(right, right, true);
        }
        cure("of eleven without misuse", x);
        cure("of a house without parts", new RightsHouse());
    }

    // ---- V

    private static void troubles() {
        CHECKS.about("V: TROUBLE of the latest call that may be refused: 0 it wasn't");
        RightsHouse x = new RightsHouse();
        CHECKS.due("trouble() of a new object", x.trouble(), 0);
        x.part(-1);
        CHECKS.taken("part(0)", x, x.part(0), 0);
        CHECKS.due("trouble() once more", x.trouble(), 0);
        x = Checks.house(3, "get 0 to a;put a by 1");
        x.part(-1);
        CHECKS.taken("cure() behind a refused call", x, x.cure(), 1);
        x.part(-1);
        CHECKS.taken("key() behind a refused call", x, x.key(), 0);
        x.part(-1);
        CHECKS.taken("without(0, 0) behind a refused call", x, x.without(0, 0), 0);
        x.part(-1);
        CHECKS.taken("way(0, 1) behind a refused call", x, x.way(0, 1), 2);
        x.part(-1);
        CHECKS.taken("way(1, 0) behind a refused call", x, x.way(1, 0), -2);
        x.part(-1);
        CHECKS.taken("lines() behind a refused call", x, Checks.lines(x, 0, "result a"), 1);
        x.part(-1);
        CHECKS.taken("cure() of none behind a refused call", x, x.cure(), 0);
        x.part(-1);
        CHECKS.allowed("meant() behind a refused call", x, x.meant(0, 0, true));
        x.part(-1);
        CHECKS.allowed("grant() behind a refused call", x, x.grant(0, 0));
        x = new RightsHouse();
        x.part(0);
        CHECKS.about("V: 1 there is none such");
        CHECKS.denied("grant(1, 0)", x, x.grant(1, 0), 1);
        CHECKS.about("V: 2 a number");
        CHECKS.denied("grant(0, -1)", x, x.grant(0, -1), 2);
        CHECKS.about("V: 3 no room");
        for (int part = 1; part < 10; part++) {
            x.part(0);
        }
        CHECKS.refused("an eleventh part", x, x.part(0), 3);
        CHECKS.about("V: 4 a FAULT");
        CHECKS.refused("lines(0, 0)", x, x.lines(0, 0), 4);
        CHECKS.about("V: 5 there is none");
        CHECKS.refused("key()", x, x.key(), 5);
        CHECKS.about("V: 6 too many");
        x = Checks.everyLeak();
        CHECKS.refused("cure()", x, x.cure(), 6);
    }

    public static void main(String[] args) {
        anyOrder();
        leastSets();
        askedAlone();
        whoIsAsked();
        gets();
        lets();
        asks();
        washes();
        leaks();
        misuseAndService();
        ways();
        nearestGets();
        firstWays();
        needs();
        helped();
        cures();
        leastCures();
        tenAtMost();
        troubles();
        CHECKS.end();
    }
}
