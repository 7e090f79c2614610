/** Promises 17 and 18: the shortest way of a leak, the first of as short ones, and its steps. */
public final class WayTest {
    private static final Checks CHECKS = new Checks();

    private static void way(String what, RightsHouse x, int secret, int door, int... want) {
        CHECKS.due(what, x.way(secret, door), want.length);
        CHECKS.due(what + ", trouble()", x.trouble(), 0);
        CHECKS.steps(what, x, want);
    }

    private static void numbers() {
        RightsHouse x = Checks.house(3, "get 0 to a; put a by 1");
        CHECKS.noStep("step before any way", x, 0);
        way("get and put", x, 0, 1, 0, 1);
        int[][] wrong = {{-1, 1}, {16, 1}, {0, -1}, {0, 16}};
        for (int[] w : wrong) {
            CHECKS.due("way(" + w[0] + ", " + w[1] + ")", x.way(w[0], w[1]), -1);
            CHECKS.due("its trouble()", x.trouble(), 2);
        }
        CHECKS.due("no leak", x.way(1, 1), -2);
        CHECKS.due("its trouble()", x.trouble(), 0);
        CHECKS.steps("steps of the latest way there was", x, 0, 1);
        CHECKS.noStep("step(-1)", x, -1);
        CHECKS.noStep("step(MAX)", x, Integer.MAX_VALUE);
        x.grant(0, 1);
        CHECKS.due("without the door's right", x.way(0, 1), -2);
        x.grant(0, 2);
        CHECKS.due("without the get's right", x.way(0, 1), -2);
        CHECKS.steps("steps stay", x, 0, 1);
    }

    private static void shortestAndFirst() {
        RightsHouse x = Checks.house(3, "let b from a; let c from a; put c by 1; put b by 1; get 0 to a; get 0 to d; let c from d");
        way("as short: the first get, then the first let", x, 0, 1, 4, 0, 3);
        Checks.lines(x, 0, "get 0 to a; let b from a; let c from b; put c by 1; get 0 to c");
        way("a later get that is nearer", x, 0, 1, 4, 3);
        Checks.lines(x, 0, "get 0 to a; let b from a; let c from a; let c from b; put c by 1");
        way("an earlier let that is a way round", x, 0, 1, 0, 2, 4);
        Checks.lines(x, 0, "get 0 to a; let c from e,a,b; let b from a; put b by 1; put c by 1; put c by 1");
        way("the first put of as good ones", x, 0, 1, 0, 1, 4);
    }

    private static void asksAndResults() {
        RightsHouse x = Checks.house(3, "get 0 to b; ask 1 with b to c; ask 1 with d to e; put e by 1", 0, "result a");
        way("in by one ask, out by another", x, 0, 1, 0, 1, 100, 2, 3);
        x = Checks.house(2, "ask 2 with a to b; ask 1 with a to b; put b by 1", 1, "get 0 to c; result c",
            1, "let d from c; get 0 to c; result d; result c");
        way("the first get though its ask is later", x, 0, 1, 100, 101, 1, 2);
        x = Checks.house(2, "put a by 1; ask 1 with c to d; ask 2 with d to c", 1, "get 0 to a; get 0 to h; let g from h; result g",
            2, "put a by 1");
        way("a result, an ask, and an ask on to another's put", x, 0, 1, 101, 102, 103, 1, 2, 200);
    }

    private static void washesAndUnasked() {
        RightsHouse x = Checks.house(3, "get 0 to a; let b from a; wash b of 0; put b by 1; let c from a; let d from c; put d by 1");
        way("round a washed name", x, 0, 1, 0, 4, 5, 6);
        Checks.lines(x, 0, "get 0 to b; let b from a; wash b of 0; put b by 1");
        way("from a get of a washed name", x, 0, 1, 0, 3);
        x = Checks.house(0, "put a by 1", 3, "get 0 to a; put a by 1; ask 0 with a to b");
        CHECKS.due("in a part that isn't asked", x.way(0, 1), -2);
        x = Checks.house(2, "ask 1 with a to b; put c by 1; let c from b; ask 1 with a to d; put d by 1; wash d of 0",
            1, "get 0 to b; result b");
        way("not by an ask to a washed name", x, 0, 1, 100, 101, 0, 2, 1);
        x = Checks.house(3, "get 0 to b; ask 1 with b to c; put c by 1", 0, "wash a of 0; result a");
        CHECKS.due("not into a washed a", x.way(0, 1), -2);
    }

    private static void theLongest() {
        // Through all names of all parts and all their results but the first's.
        RightsHouse x = new RightsHouse();
        for (int part = 0; part < 10; part++) {
            x.part(part == 0 ? 3 : 0);
        }
        Checks.lines(x, 0, "get 0 to a;let b from a;let c from b;let d from c;let e from d;let f from e;let g from f;"
            + "ask 1 with g to h;put h by 1");
        for (int part = 1; part < 10; part++) {
            String last = part == 9 ? "let h from g" : "ask " + (part + 1) + " with g to h";
            int read = Checks.lines(x, part, "let b from a;let c from b;let d from c;let e from d;let f from e;"
                + "let g from f;" + last + ";result h");
            CHECKS.due("lines of part " + part, read, 8);
        }
        int length = 1 + 7 + 9 * 8 + 9 + 1;
        CHECKS.due("the longest way", x.way(0, 1), length);
        CHECKS.due("its first step", Checks.step(x, 0), 0);
        CHECKS.due("its ask of part 9", Checks.step(x, 1 + 7 + 8 * 7 - 1), 806);
        CHECKS.due("its last ask", Checks.step(x, length - 2), 7);
        CHECKS.due("its last step", Checks.step(x, length - 1), 8);
        CHECKS.noStep("behind it", x, length);
    }

    /** Through all names and all results of all parts: up by results to part 9, back by what they are asked with. */
    private static void everyPlaceOnce() {
        RightsHouse x = new RightsHouse();
        for (int part = 0; part < 10; part++) {
            x.part(part == 0 ? 3 : 0);
        }
        Checks.lines(x, 0, "get 0 to b;let c from b;let d from c;let e from d;let f from e;let g from f;let h from g;result h;"
            + "ask 9 with a to b;put a by 1");
        for (int part = 1; part < 9; part++) {
            Checks.lines(x, part, "ask " + (part - 1) + " with h to b;let c from b;let d from c;let e from d;let f from e;"
                + "let g from f;result g;let h from a");
        }
        Checks.lines(x, 9, "ask 8 with a to b;let c from b;let d from c;result d;ask 9 with h to e;let f from e;let g from f;let h from g");
        CHECKS.due("lines in all", x.count(1), 10 + 9 * 8);
        CHECKS.due("a way through every place", x.way(0, 1), 1 + 89 + 1);
        int[] places = {0, 7, 8, 9, 14, 15, 57, 63, 64, 67, 68, 69, 71, 72, 73, 74, 75, 76, 88, 89, 90};
        int[] steps = {0, 7, 100, 101, 106, 200, 800, 806, 900, 903, 904, 905, 907, 904, 900, 807, 800, 707, 107, 100, 9};
        for (int i = 0; i < places.length; i++) {
            CHECKS.due("step(" + places[i] + ")", Checks.step(x, places[i]), steps[i]);
        }
        CHECKS.noStep("step(91)", x, 91);
    }

    public static void main(String[] args) {
        numbers();
        shortestAndFirst();
        asksAndResults();
        washesAndUnasked();
        theLongest();
        everyPlaceOnce();
        CHECKS.end();
    }
}
