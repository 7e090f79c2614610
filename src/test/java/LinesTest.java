/** Promises 5 to 8: lines, their faults with their places, and what a line tells. */
public final class LinesTest {
    private static final Checks CHECKS = new Checks();
    private static final String TWELVE = "result a;result a;result a;result a;result a;result a;"
        + "result a;result a;result a;result a;result a;result a";

    /** Reads a text with two parts there; place NONE for one that is without fault. */
    private static void text(String text, int answer, int fault, int place) {
        RightsHouse x = Checks.house(0, "put h by 9", 0, "");
        CHECKS.due("lines of '" + text + "'", Checks.lines(x, 0, text), answer);
        CHECKS.due("trouble() of '" + text + "'", x.trouble(), fault == 0 ? 0 : 4);
        CHECKS.due("fault() of '" + text + "'", x.fault(), fault);
        CHECKS.due("where() of '" + text + "'", x.where(), place);
        CHECKS.due("count(4) behind '" + text + "'", x.count(4), 0);
        CHECKS.due("count(1) behind '" + text + "'", x.count(1), fault == 0 ? answer : 1);
        CHECKS.due("former line behind '" + text + "'", x.line(0, 0, 1) == 9, fault != 0);
    }

    private static void good(String text, int answer) {
        text(text, answer, 0, -1);
    }

    private static void bad(String text, int fault, int place) {
        text(text, -1, fault, place);
    }

    private static void goodOnes() {
        good("get 1 to a", 1);
        good("get1to a", 1);
        good("  get   01to a  ;  put a by 15  ", 2);
        good("get 15 to h;wash h of 15;put h by 0", 3);
        good("let a from a", 1);
        good("let a from b,c,d,e", 1);
        good("let a from b , b;result a", 2);
        good("ask 0 with a to a;ask 01 with b to h", 2);
        good(TWELVE, 12);
    }

    private static void form() {
        bad("", 1, 0);
        bad("   ", 1, 3);
        bad("to", 1, 0);
        bad(" abcdefgh", 1, 1);
        bad("get", 1, 3);
        bad("get  ", 1, 5);
        bad("get a", 1, 4);
        bad("get 1 a", 1, 6);
        bad("get 1 tob", 1, 6);
        bad("get 1 to 1", 1, 9);
        bad("get 1 to ;", 1, 9);
        bad("get 1 to a b", 1, 11);
        bad("get 1 to a,b", 1, 10);
        bad("get 1 to a;", 1, 11);
        bad("get 1 to a; ", 1, 12);
        bad("get 1 to a;;", 1, 11);
        bad("get 1 to a$", 1, 10);
        bad("get 1 to $", 1, 9);
        bad("Get 1 to a", 1, 0);
        bad("get\t1 to a", 1, 3);
        bad("get 100 to a", 1, 4);
        bad("get 001 to a", 1, 4);
        bad("get -1 to a", 1, 4);
        bad("abcdefghi", 1, 0);
        bad("get 1 to abcdefghi", 1, 9);
        bad("let a by b", 1, 6);
        bad("let a from b,", 1, 13);
        bad("let a from b,1", 1, 13);
        bad("let a from ,", 1, 11);
        bad("ask a", 1, 4);
        bad("ask 1 to a", 1, 6);
        bad("ask 1 with a by a", 1, 13);
        bad("put a by b", 1, 9);
        bad("wash a by 1", 1, 7);
        bad("result 1", 1, 7);
        bad("result a\u00e9", 1, 8);
        bad("result a\0", 1, 8);
    }

    private static void names() {
        bad("get 1 to i", 2, 9);
        bad("get 1 to aa", 2, 9);
        bad("get 1 to abcdefgh", 2, 9);
        bad("get 1 to to", 2, 9);
        bad("let z from a", 2, 4);
        bad("let from from a", 2, 4);
        bad("let a from b,get", 2, 13);
        bad("ask 0 with x to a", 2, 11);
        bad("ask 0 with a to x", 2, 16);
        bad("put i by 1", 2, 4);
        bad("wash i of 1", 2, 5);
        bad("result ab;$", 2, 7);
    }

    private static void numbers() {
        bad("get 16 to a", 3, 4);
        bad("get 99 to z", 3, 4);
        bad("put a by 16", 3, 9);
        bad("wash a of 16", 3, 10);
        bad("ask 2 with a to a", 3, 4);
        bad("ask 99 with z", 3, 4);
        bad("get 1 to z;get 16 to a", 2, 9);
        RightsHouse x = Checks.house(0, "");
        CHECKS.due("ask of a part to come", Checks.lines(x, 0, "ask 1 with a to b"), -1);
        CHECKS.due("its fault", x.fault(), 3);
        x.part(0);
        CHECKS.due("ask of it when it is there", Checks.lines(x, 0, "ask 1 with a to b"), 1);
    }

    private static void many() {
        int end = TWELVE.length();
        bad(TWELVE + ";result a", 4, end + 1);
        bad(TWELVE + "; get 99", 4, end + 2);
        bad(TWELVE + ";", 1, end + 1);
        bad(TWELVE + ";a", 1, end + 1);
        bad(TWELVE + ";1", 1, end + 1);
        bad("let a from b,c,d,e,f", 4, 19);
        bad("let a from b,c,d,e, f$", 4, 20);
        bad("let a from b,c,d,e,i", 2, 19);
        bad("let a from b,c,d,e,1", 1, 19);
        bad("let a from b,c,d,e,", 1, 19);
        bad("let a from b,c,d,e f", 1, 19);
    }

    private static void refusals() {
        RightsHouse x = Checks.house(0, "");
        x.feed(0x72657375, 0x6C742061, 0x20202020, 0x20202020, 0x20202020);
        CHECKS.due("lines(1, 7)", x.lines(1, 7), -1);
        CHECKS.due("trouble() of lines(1, 7)", x.trouble(), 1);
        CHECKS.due("lines(-1, 99)", x.lines(-1, 99), -1);
        CHECKS.due("trouble() of lines(-1, 99)", x.trouble(), 1);
        CHECKS.due("lines(0, 21)", x.lines(0, 21), -1);
        CHECKS.due("trouble() of lines(0, 21)", x.trouble(), 2);
        CHECKS.due("lines(0, -1)", x.lines(0, -1), -1);
        CHECKS.due("count(4) is left", x.count(4), 20);
        CHECKS.due("fault() of none", x.fault(), 0);
        CHECKS.due("where() of none", x.where(), -1);
        CHECKS.due("lines(0, 8)", x.lines(0, 8), 1);
        CHECKS.due("count(4) is 0", x.count(4), 0);
        Checks.lines(x, 0, "result z");
        CHECKS.due("fault()", x.fault(), 2);
        CHECKS.due("where()", x.where(), 7);
        x.holds(0, 0);
        CHECKS.due("where() behind a call that can't be refused", x.where(), 7);
        x.lines(0, 5);
        CHECKS.due("fault() behind one refused by 2", x.fault(), 2);
        CHECKS.due("where() behind one refused by 2", x.where(), -1);
        x.lines(7, 0);
        CHECKS.due("fault() behind one refused by 1", x.fault(), 2);
        Checks.lines(x, 0, "result z");
        x.meant(0, 0, true);
        CHECKS.due("where() behind one that was taken", x.where(), -1);
        CHECKS.due("lines(0, 0)", x.lines(0, 0), -1);
        CHECKS.due("fault() of lines(0, 0)", x.fault(), 1);
        CHECKS.due("where() of lines(0, 0)", x.where(), 0);
        Checks.lines(x, 0, "result b");
        CHECKS.due("fault() of a good one", x.fault(), 0);
        CHECKS.due("the new line", x.line(0, 0, 2), 1);
    }

    private static void tellsOfLines() {
        RightsHouse x = Checks.house(0, "");
        Checks.lines(x, 0, "get 15 to h;let b from d,c,d;ask 0 with e to f;put g by 3;wash h of 4;result c");
        int[][] want = {{0, 15, 7, -1}, {1, 3, 1, 3}, {2, 0, 4, 5}, {3, 3, 6, -1}, {4, 4, 7, -1}, {5, 0, 2, -1}};
        for (int k = 0; k < want.length; k++) {
            for (int what = 0; what < 4; what++) {
                CHECKS.due("line(0, " + k + ", " + what + ")", x.line(0, k, what), want[k][what]);
            }
        }
        int[][] wrong = {{1, 0, 0}, {-1, 0, 0}, {0, 6, 0}, {0, -1, 0}, {0, 12, 0}, {0, 0, 4}, {0, 0, -1}};
        for (int[] w : wrong) {
            CHECKS.due("line(" + w[0] + ", " + w[1] + ", " + w[2] + ")", x.line(w[0], w[1], w[2]), -1);
        }
        Checks.lines(x, 0, "result a");
        CHECKS.due("a former line", x.line(0, 1, 0), -1);
    }

    public static void main(String[] args) {
        goodOnes();
        form();
        names();
        numbers();
        many();
        refusals();
        tellsOfLines();
        CHECKS.end();
    }
}
