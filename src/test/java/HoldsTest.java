/** Promises 10 to 16: what names, results and doors hold, who is asked, leaks and misuse. */
public final class HoldsTest {
    private static final Checks CHECKS = new Checks();

    private static void getsAndLets() {
        // Lines are taken in any order: the let stands before what it brings.
        RightsHouse x = Checks.house(Checks.bits(0, 2), "let c from b,d; let d from a; get 0 to b; get 1 to b; get 2 to a");
        CHECKS.due("holds a", x.holds(0, 0), Checks.bits(2));
        CHECKS.due("holds b", x.holds(0, 1), Checks.bits(0));
        CHECKS.due("holds c", x.holds(0, 2), Checks.bits(0, 2));
        CHECKS.due("holds d", x.holds(0, 3), Checks.bits(2));
        CHECKS.due("holds e", x.holds(0, 4), 0);
        int[][] wrong = {{1, 0}, {-1, 0}, {0, 8}, {0, -1}};
        for (int[] w : wrong) {
            CHECKS.due("holds(" + w[0] + ", " + w[1] + ")", x.holds(w[0], w[1]), -1);
        }
    }

    private static void asks() {
        RightsHouse x = Checks.house(1, "get 0 to b; ask 1 with b to c; ask 2 with d to e",
            2, "get 1 to d; result a; result d", 0, "result a; ask 1 with a to b", 8, "get 3 to a; result a; ask 2 with a to a");
        CHECKS.due("asked(0)", x.asked(0), 1);
        CHECKS.due("asked(1)", x.asked(1), 1);
        CHECKS.due("asked(2)", x.asked(2), 1);
        CHECKS.due("asked(3)", x.asked(3), 0);
        CHECKS.due("asked(4)", x.asked(4), -1);
        CHECKS.due("asked(-1)", x.asked(-1), -1);
        CHECKS.due("result(1)", x.result(1), Checks.bits(0, 1));
        CHECKS.due("holds(0, c)", x.holds(0, 2), Checks.bits(0, 1));
        CHECKS.due("holds(2, b): all that may be the result", x.holds(2, 1), Checks.bits(0, 1));
        CHECKS.due("result(2)", x.result(2), 0);
        CHECKS.due("holds(3, a): not asked", x.holds(3, 0), 0);
        CHECKS.due("result(3): not asked", x.result(3), 0);
        CHECKS.due("result(0): no result line", x.result(0), 0);
        CHECKS.due("result(4)", x.result(4), -1);
        CHECKS.due("result(-1)", x.result(-1), -1);
        Checks.lines(x, 0, "ask 3 with b to c");
        CHECKS.due("asked(1) through 3 and 2", x.asked(1), 1);
        CHECKS.due("result(3) when asked", x.result(3), Checks.bits(3));
        CHECKS.due("holds(2, b) through 3", x.holds(2, 1), Checks.bits(1, 3));
    }

    private static void selfAsk() {
        RightsHouse x = Checks.house(3, "get 0 to b; ask 0 with b to c; result a; result d; get 1 to d; let b from c");
        CHECKS.due("holds a of one that asks itself", x.holds(0, 0), 3);
        CHECKS.due("holds c of one that asks itself", x.holds(0, 2), 3);
        CHECKS.due("result of one that asks itself", x.result(0), 3);
    }

    private static void washes() {
        RightsHouse x = Checks.house(Checks.bits(0, 1), "get 0 to b; get 1 to b; let c from b; wash c of 0; wash b of 1;"
            + "ask 1 with b to d; wash d of 1; ask 1 with c to e", 0, "wash a of 0; result a; let b from a");
        CHECKS.due("a get brings it all the same", x.holds(0, 1), 3);
        CHECKS.due("washed by let", x.holds(0, 2), 2);
        CHECKS.due("washed as a, by being asked", x.holds(1, 0), 2);
        CHECKS.due("behind a washed a", x.holds(1, 1), 2);
        CHECKS.due("result of it", x.result(1), 2);
        CHECKS.due("washed by ask", x.holds(0, 3), 0);
        CHECKS.due("not washed by ask", x.holds(0, 4), 2);
        x = Checks.house(1, "get 0 to a; wash b of 0; let b from a; let c from b; let c from a");
        CHECKS.due("another way past a washed name", x.holds(0, 2), 1);
        CHECKS.due("the washed name", x.holds(0, 1), 0);
        x = Checks.house(0, "ask 1 with a to b; put b by 5", 1, "get 0 to c; result c");
        Checks.lines(x, 1, "get 0 to c; result c; wash c of 0");
        CHECKS.due("result of a washed name with a get", x.result(1), 1);
    }

    private static void doors() {
        RightsHouse x = Checks.house(Checks.bits(0, 5, 6), "get 0 to a; put a by 5; put a by 7; ask 1 with a to b; put b by 6",
            Checks.bits(1, 5), "get 1 to b; put b by 5; put a by 6; result b", Checks.bits(2, 5), "get 2 to a; put a by 5");
        CHECKS.due("door(5)", x.door(5), Checks.bits(0, 1));
        CHECKS.due("door(6): one has the right", x.door(6), Checks.bits(1));
        CHECKS.due("door(7): none has the right", x.door(7), 0);
        CHECKS.due("door(16)", x.door(16), -1);
        CHECKS.due("door(-1)", x.door(-1), -1);
        CHECKS.due("leaks()", x.leaks(), 3);
        CHECKS.due("misuse(false)", x.misuse(false), 3);
        CHECKS.due("misuse(true)", x.misuse(true), 0);
        int[] wrong = {5, 105, 106, -1};
        for (int i = 0; i < wrong.length; i++) {
            CHECKS.due("wrong(" + i + ")", x.wrong(i), wrong[i]);
        }
        CHECKS.due("wrong(-1)", x.wrong(-1), -1);
        x.meant(1, 5, true);
        x.meant(3, 5, true);
        CHECKS.due("leaks() with some meant", x.leaks(), 3);
        CHECKS.due("misuse(false) with some meant", x.misuse(false), 2);
        CHECKS.due("misuse(true) with some meant", x.misuse(true), 1);
        CHECKS.due("wrong(1) with some meant", x.wrong(1), 106);
        x.meant(1, 5, false);
        CHECKS.due("misuse(false) with none meant", x.misuse(false), 3);
        x.grant(0, Checks.bits(0, 5));
        CHECKS.due("door(6) without the right", x.door(6), 0);
        CHECKS.due("leaks() without the right", x.leaks(), 2);
    }

    public static void main(String[] args) {
        getsAndLets();
        asks();
        selfAsk();
        washes();
        doors();
        CHECKS.end();
    }
}
