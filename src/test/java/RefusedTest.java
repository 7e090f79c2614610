import java.util.function.Consumer;

/** Calls that are refused, or that only tell or try, leave all else as it was; the calls that only tell, trouble() too. */
public final class RefusedTest {
    private static final Checks CHECKS = new Checks();
    private static final int MIN = Integer.MIN_VALUE;
    private static final int MAX = Integer.MAX_VALUE;
    private static final int TAPE = 20;

    /** Two parts with lines, leaks of both kinds, a way and a cure that were told, a fault, and a text on the tape. */
    private static RightsHouse furnished() {
        RightsHouse x = Checks.house(7, "get 0 to b;ask 1 with b to c;put c by 1;put c by 2", 8, "get 3 to a;result a");
        x.meant(3, 1, true);
        x.meant(4, 4, true);
        x.way(3, 1);
        x.cure();
        x.meant(3, 2, true);
        Checks.lines(x, 1, "result i");
        Checks.feed(x, "put h by 15;result h");
        x.way(0, 12);
        return x;
    }

    private static String tape(RightsHouse x) {
        return "lines " + x.lines(0, TAPE) + " " + Checks.state(x);
    }

    /** What a call leaves is what there would be without it: all that is told, and the text on the tape. */
    private static void leaves(String call, int trouble, int place, Consumer<RightsHouse> made) {
        RightsHouse plain = furnished();
        RightsHouse other = furnished();
        made.accept(other);
        CHECKS.due(call + ", trouble()", other.trouble(), trouble);
        CHECKS.due(call + ", where()", other.where(), place);
        CHECKS.same(call, Checks.state(other), Checks.state(plain));
        CHECKS.same(call + ", then lines", tape(other), tape(plain));
    }

    private static void refused(String call, int trouble, Consumer<RightsHouse> made) {
        leaves(call, trouble, -1, made);
    }

    private static void partAndGrant() {
        CHECKS.about("2: part: NONE: 2");
        int[] wrong = {-1, 65536, MIN, MAX};
        for (int grants : wrong) {
            refused("part(" + grants + ")", 2, x -> x.part(grants));
        }
        CHECKS.about("3: grant: false: 1; 2");
        int[] none = {-1, 2, 10, MIN, MAX};
        for (int part : none) {
            refused("grant(" + part + ", 1)", 1, x -> x.grant(part, 1));
        }
        for (int grants : wrong) {
            refused("grant(0, " + grants + ")", 2, x -> x.grant(0, grants));
            refused("grant(1, " + grants + ")", 2, x -> x.grant(1, grants));
        }
    }

    private static void eleventhPart() {
        CHECKS.about("2: part: 3");
        RightsHouse plain = new RightsHouse();
        RightsHouse other = new RightsHouse();
        for (int part = 0; part < 10; part++) {
            plain.part(part);
            other.part(part);
        }
        CHECKS.refused("an eleventh part", other, other.part(65535), 3);
        CHECKS.same("an eleventh part", Checks.state(other), Checks.state(plain));
    }

    private static void linesByNumber() {
        CHECKS.about("5: lines: NONE: 1, 2 (both leave THE TAPE)");
        int[] none = {-1, 2, 10, MIN, MAX};
        for (int part : none) {
            refused("lines(" + part + ", 20)", 1, x -> x.lines(part, TAPE));
            refused("lines(" + part + ", -1)", 1, x -> x.lines(part, -1));
        }
        int[] wrong = {-1, TAPE + 1, MIN, MAX};
        for (int n : wrong) {
            refused("lines(0, " + n + ")", 2, x -> x.lines(0, n));
        }
    }

    private static void linesByFault() {
        CHECKS.about("5: lines: 4 (the former ones stay)");
        String[] texts = {"result 1            ", "result i            ", "put a by 16         ", "let a from a,a,a,a,a"};
        int[] places = {7, 7, 9, 19};
        for (int i = 0; i < 4; i++) {
            RightsHouse plain = furnished();
            // The text that is found at fault is all that goes, so the other's goes by a fault, too.
            plain.lines(0, 0);
            Checks.lines(plain, 1, texts[i]);
            RightsHouse other = furnished();
            other.lines(0, 0);
            Checks.lines(other, 0, texts[i]);
            CHECKS.due("trouble() of " + texts[i], other.trouble(), 4);
            CHECKS.due("where() of " + texts[i], other.where(), places[i]);
            CHECKS.due("count(4) of " + texts[i], other.count(4), 0);
            CHECKS.due("count(1) of " + texts[i], other.count(1), 6);
            CHECKS.same(texts[i], Checks.state(other), Checks.state(plain));
        }
    }

    private static void feedBeyond() {
        CHECKS.about("4: feed: NONE, and none comes");
        RightsHouse plain = furnished();
        RightsHouse other = furnished();
        String blanks = " ".repeat(300 - TAPE);
        Checks.feed(plain, blanks);
        Checks.feed(other, blanks);
        CHECKS.due("a feed beyond 300", other.feed(MIN, MAX, 0, 1, -1), -1);
        CHECKS.due("trouble() is as it was", other.trouble(), plain.trouble());
        CHECKS.same("a feed beyond 300", Checks.state(other), Checks.state(plain));
        CHECKS.taken("lines(0, 300)", other, other.lines(0, 300), 2);
        CHECKS.due("line(0, 0, 1)", other.line(0, 0, 1), 15);
    }

    private static void meantAndWay() {
        CHECKS.about("9: meant: false (2)");
        int[] wrong = {-1, 16, MIN, MAX};
        for (int number : wrong) {
            refused("meant(" + number + ", 4, false)", 2, x -> x.meant(number, 4, false));
            refused("meant(4, " + number + ", false)", 2, x -> x.meant(4, number, false));
            refused("meant(" + number + ", 0, true)", 2, x -> x.meant(number, 0, true));
            refused("meant(0, " + number + ", true)", 2, x -> x.meant(0, number, true));
        }
        CHECKS.about("17: way: NONE (2)");
        for (int number : wrong) {
            refused("way(" + number + ", 1)", 2, x -> x.way(number, 1));
            refused("way(0, " + number + ")", 2, x -> x.way(0, number));
        }
        CHECKS.about("18: the latest way() that told more than 0");
        refused("way(0, 3), -2", 0, x -> x.way(0, 3));
        refused("way(15, 15), -2", 0, x -> x.way(15, 15));
    }

    private static void rights() {
        CHECKS.about("26: without: NONE: 1; 2");
        int[] none = {-1, 2, 10, MIN, MAX};
        for (int part : none) {
            refused("without(" + part + ", 0)", 1, x -> x.without(part, 0));
            refused("without(" + part + ", 16)", 1, x -> x.without(part, 16));
        }
        int[] wrong = {-1, 16, MIN, MAX};
        for (int right : wrong) {
            refused("without(0, " + right + ")", 2, x -> x.without(0, right));
        }
        CHECKS.about("26: (Nothing is changed.)");
        for (int part = 0; part < 2; part++) {
            for (int right = 0; right < 16; right++) {
                int to = part;
                int of = right;
                refused("without(" + to + ", " + of + ")", 0, x -> x.without(to, of));
            }
        }
        CHECKS.about("27: key() tells and takes nothing");
        refused("key()", 0, RightsHouse::key);
    }

    private static void cureTakesNothing() {
        CHECKS.about("24: (Nothing is taken away.)");
        RightsHouse x = furnished();
        String before = Checks.state(x);
        CHECKS.due("cured(1) of the one before", x.cured(1), 2);
        CHECKS.taken("cure()", x, x.cure(), 1);
        CHECKS.due("cured(0)", x.cured(0), 0);
        CHECKS.due("cured(1)", x.cured(1), -1);
        CHECKS.same("cure()", Checks.state(x).replaceAll("cured.*", ""), before.replaceAll("cured.*", ""));
        CHECKS.about("24: NONE: 5 (none does)");
        x = furnished();
        x.meant(0, 1, true);
        before = Checks.state(x);
        CHECKS.refused("cure()", x, x.cure(), 5);
        CHECKS.same("cure() by 5", Checks.state(x), before);
        CHECKS.about("24: NONE: 6 (more than 10)");
        x.lines(1, 0);
        Checks.lines(x, 1, "get 3 to a;result a;get 4 to d;get 5 to d;get 6 to d;get 7 to d;get 8 to d;get 9 to d;get 10 to d");
        x.grant(1, 2047);
        before = Checks.state(x);
        CHECKS.refused("cure()", x, x.cure(), 6);
        CHECKS.same("cure() by 6", Checks.state(x), before);
        CHECKS.about("27: key: NONE (5: no MISUSE)");
        x = new RightsHouse();
        x.part(3);
        before = Checks.state(x);
        CHECKS.refused("key()", x, x.key(), 5);
        CHECKS.same("key() by 5", Checks.state(x), before);
    }

    private static void tellAll(RightsHouse x, int i) {
        x.fault();
        x.line(i, 0, 0);
        x.line(0, i, 0);
        x.line(0, 0, i);
        x.holds(i, 0);
        x.holds(0, i);
        x.result(i);
        x.asked(i);
        x.door(i);
        x.leaks();
        x.misuse(i == 0);
        x.wrong(i);
        Checks.step(x, i);
        x.needed(i);
        x.idle(i);
        x.lacking(i);
        x.helped(i);
        x.cured(i);
        x.count(i);
    }

    /** Calls whose promise tells no trouble leave the latest one, here a fault with its place. */
    private static void onlyTelling() {
        CHECKS.about("V: TROUBLE of the latest call that may be refused");
        int[] odd = {-1, 0, 1, 2, 15, 16, 300, MIN, MAX};
        for (int i : odd) {
            RightsHouse x = furnished();
            x.lines(0, 12);
            tellAll(x, i);
            x.trim();
            x.feed(i, i, i, i, i);
            CHECKS.due("trouble() behind calls of " + i, x.trouble(), 4);
            CHECKS.due("where() behind calls of " + i, x.where(), 12);
        }
    }

    private static void nonesLeaveAll() {
        CHECKS.about("8 to 28: a call that tells NONE alone changes nothing");
        int[] wrong = {-1, 16, MIN, MAX};
        for (int i : wrong) {
            refused("calls of " + i, 0, x -> tellAll(x, i));
        }
    }

    public static void main(String[] args) {
        partAndGrant();
        eleventhPart();
        linesByNumber();
        linesByFault();
        feedBeyond();
        meantAndWay();
        rights();
        cureTakesNothing();
        onlyTelling();
        nonesLeaveAll();
        CHECKS.end();
    }
}
