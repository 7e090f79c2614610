/** Terms I and II: each bound's last value and the first beyond it, each token's, each fault's. */
public final class BoundsTest {
    private static final Checks CHECKS = new Checks();
    private static final int LAST = 65535;
    private static final String ELEVEN = "result a;".repeat(11);
    private static final String TWELVE = ELEVEN + "result a";

    // ---- I

    private static void tenParts() {
        CHECKS.about("I: PARTS 10");
        RightsHouse x = new RightsHouse();
        for (int i = 0; i < 10; i++) {
            CHECKS.taken("part " + i, x, x.part(1), i);
        }
        CHECKS.refused("part 10", x, x.part(1), 3);
        CHECKS.due("count(0)", x.count(0), 10);
        CHECKS.taken("lines of part 9", x, Checks.lines(x, 9, "get 0 to h;result h"), 2);
        CHECKS.taken("lines of part 0", x, Checks.lines(x, 0, "ask 9 with a to b"), 1);
        CHECKS.due("asked(9)", x.asked(9), 1);
        CHECKS.due("holds(9, h)", x.holds(9, 7), 1);
        CHECKS.due("holds(0, b)", x.holds(0, 1), 1);
        CHECKS.allowed("grant(9, 0)", x, x.grant(9, 0));
        CHECKS.due("holds(9, h) without the right", x.holds(9, 7), 0);
        CHECKS.denied("grant(10, 0)", x, x.grant(10, 0), 1);
        CHECKS.due("asked(10)", x.asked(10), -1);
    }

    private static void twelveLines() {
        CHECKS.about("I: of each 12 LINES");
        RightsHouse x = new RightsHouse();
        for (int i = 0; i < 10; i++) {
            x.part(0);
            CHECKS.taken("12 lines of part " + i, x, Checks.lines(x, i, TWELVE), 12);
        }
        CHECKS.due("count(1)", x.count(1), 120);
        CHECKS.due("line(9, 11, 0)", x.line(9, 11, 0), 5);
        CHECKS.due("line(9, 12, 0)", x.line(9, 12, 0), -1);
        CHECKS.refused("13 lines", x, Checks.lines(x, 9, TWELVE + ";result a"), 4);
        CHECKS.due("count(1) behind it", x.count(1), 120);
    }

    /** Every part has every line, and most lines are the widest lets: what comes by the last ones comes through all. */
    private static void fullHouse() {
        CHECKS.about("I: PARTS 10, of each 12 LINES, at once");
        RightsHouse x = new RightsHouse();
        for (int part = 0; part < 10; part++) {
            x.part(part == 0 ? 1 : part == 9 ? 2 : 0);
        }
        String wide = "let b from c,d,e,f;";
        String on = "let h from a,b,c,d";
        CHECKS.due("lines of part 0", Checks.lines(x, 0, "get 0 to a;ask 1 with h to g;" + wide.repeat(9) + on), 12);
        for (int part = 1; part < 9; part++) {
            int read = Checks.lines(x, part, "ask " + (part + 1) + " with h to g;" + wide.repeat(10) + on);
            CHECKS.due("lines of part " + part, read, 12);
        }
        CHECKS.due("lines of part 9", Checks.lines(x, 9, wide.repeat(10) + on + ";put h by 1"), 12);
        CHECKS.due("count(1)", x.count(1), 120);
        for (int part = 0; part < 10; part++) {
            CHECKS.due("holds(" + part + ", a)", x.holds(part, 0), 1);
            CHECKS.due("holds(" + part + ", b)", x.holds(part, 1), 0);
            CHECKS.due("holds(" + part + ", h)", x.holds(part, 7), 1);
        }
        CHECKS.due("door(1)", x.door(1), 1);
        CHECKS.taken("way(0, 1)", x, x.way(0, 1), 21);
        CHECKS.steps("way(0, 1)", x, 0, 11, 1, 111, 100, 211, 200, 311, 300, 411, 400, 511, 500, 611, 600, 711, 700, 811, 800,
            910, 911);
    }

    private static void sixteenRights() {
        CHECKS.about("I: RIGHTS 16 (0 .. 15)");
        RightsHouse x = Checks.house(LAST, "get 0 to a;get 15 to b;put a by 15;put b by 0");
        CHECKS.due("holds(0, a)", x.holds(0, 0), 1);
        CHECKS.due("holds(0, b)", x.holds(0, 1), 1 << 15);
        CHECKS.due("door(0)", x.door(0), 1 << 15);
        CHECKS.due("door(15)", x.door(15), 1);
        CHECKS.due("needed(0)", x.needed(0), Checks.bits(0, 15));
        CHECKS.taken("way(15, 0)", x, x.way(15, 0), 2);
        CHECKS.taken("without(0, 15)", x, x.without(0, 15), 0);
        CHECKS.due("door(16)", x.door(16), -1);
        CHECKS.due("door(-1)", x.door(-1), -1);
        CHECKS.refused("way(16, 0)", x, x.way(16, 0), 2);
        CHECKS.refused("way(0, 16)", x, x.way(0, 16), 2);
        CHECKS.refused("without(0, 16)", x, x.without(0, 16), 2);
        CHECKS.refused("part(65536)", x, x.part(LAST + 1), 2);
    }

    private static void eightNames() {
        CHECKS.about("I: NAMES of a PART 8 (a .. h");
        RightsHouse x = Checks.house(255, "get 0 to a;get 1 to b;get 2 to c;get 3 to d;get 4 to e;get 5 to f;get 6 to g;get 7 to h");
        for (int name = 0; name < 8; name++) {
            CHECKS.due("holds(0, " + name + ")", x.holds(0, name), 1 << name);
            CHECKS.due("line(0, " + name + ", 2)", x.line(0, name, 2), name);
        }
        CHECKS.due("holds(0, 8)", x.holds(0, 8), -1);
        CHECKS.due("holds(0, -1)", x.holds(0, -1), -1);
    }

    private static void askedWithA() {
        CHECKS.about("I: a is what it was asked with");
        RightsHouse x = Checks.house(1, "get 0 to h;ask 1 with h to b", 0, "let b from c");
        for (int name = 0; name < 8; name++) {
            CHECKS.due("holds(1, " + name + ")", x.holds(1, name), name == 0 ? 1 : 0);
        }
    }

    private static void grantsAsBits() {
        CHECKS.about("I: GRANTS: which RIGHTS each PART has, as bits");
        for (int right = 0; right < 16; right++) {
            int other = (right + 1) % 16;
            RightsHouse x = Checks.house(1 << right, "get " + right + " to b;get " + other + " to c");
            CHECKS.due("holds(0, b) by right " + right, x.holds(0, 1), 1 << right);
            CHECKS.due("holds(0, c) without right " + other, x.holds(0, 2), 0);
            CHECKS.due("count(2)", x.count(2), 1);
        }
    }

    // ---- II: the tape and tokens

    private static void read(String text, int answer, int fault, int where) {
        RightsHouse x = Checks.house(0, "put h by 9", 0, "");
        CHECKS.due("lines of '" + text + "'", Checks.lines(x, 0, text), answer);
        CHECKS.due("trouble() of '" + text + "'", x.trouble(), fault == 0 ? 0 : 4);
        CHECKS.due("fault() of '" + text + "'", x.fault(), fault);
        CHECKS.due("where() of '" + text + "'", x.where(), where);
    }

    private static void good(String text, int lines) {
        read(text, lines, 0, -1);
    }

    private static void bad(String text, int fault, int where) {
        read(text, -1, fault, where);
    }

    private static void tapeOf300() {
        CHECKS.about("II: THE TAPE has 300 bytes");
        String long300 = " ".repeat(292) + "result h";
        RightsHouse x = Checks.house(0, "");
        Checks.feed(x, long300);
        CHECKS.due("count(4)", x.count(4), 300);
        CHECKS.due("a feed more", x.feed(0, 0, 0, 0, 0), -1);
        CHECKS.due("count(4) behind it", x.count(4), 300);
        CHECKS.refused("lines(0, 301)", x, x.lines(0, 301), 2);
        CHECKS.taken("lines(0, 300)", x, x.lines(0, 300), 1);
        CHECKS.due("its name, of byte 299", x.line(0, 0, 2), 7);
    }

    private static void blanks() {
        CHECKS.about("II: blanks, 32, part TOKENS and mean nothing else");
        good("result a", 1);
        good("      result         a      ", 1);
        good("let a from b,c;ask 1 with a to b", 2);
        good("let a from b , c ; ask 1 with a to b", 2);
        good("get1to a;put a by1;wash a of1;ask1with a to b", 4);
        bad("resulta", 1, 0);
        bad("res ult a", 1, 0);
        bad("get 1 5 to a", 1, 6);
        for (int sign = 0; sign < 256; sign++) {
            boolean letter = sign >= 'a' && sign <= 'z';
            String text = "result a" + (char) sign;
            if (sign == ' ') {
                good(text, 1);
                good((char) sign + "result a", 1);
                good("result" + (char) sign + "a", 1);
            } else {
                bad(text, letter ? 2 : 1, letter ? 7 : sign == ';' ? 9 : 8);
                bad((char) sign + "result a", 1, 0);
                bad("result" + (char) sign + "a", 1, letter ? 0 : 6);
            }
        }
    }

    private static void words() {
        CHECKS.about("II: WORDS of 1 to 8 small letters that stand together");
        bad("result abcdefgh", 2, 7);
        bad("result abcdefghi", 1, 7);
        bad("result aaaaaaaaaa", 1, 7);
        bad("result A", 1, 7);
        bad("result aA", 1, 8);
        bad("abcdefgh", 1, 0);
        bad("abcdefghi", 1, 0);
        good("result a", 1);
        bad("result a a", 1, 9);
    }

    private static void wholes() {
        CHECKS.about("II: WHOLES of 1 or 2 digits that do");
        String[] right = {"0", "9", "00", "05", "10", "15"};
        int[] value = {0, 9, 0, 5, 10, 15};
        for (int i = 0; i < right.length; i++) {
            RightsHouse x = Checks.house(0, "");
            CHECKS.taken("lines of right " + right[i], x, Checks.lines(x, 0, "put a by " + right[i]), 1);
            CHECKS.due("right " + right[i], x.line(0, 0, 1), value[i]);
        }
        bad("put a by 99", 3, 9);
        bad("put a by 000", 1, 9);
        bad("put a by 015", 1, 9);
        bad("put a by 100", 1, 9);
        bad("put a by 4294967296", 1, 9);
        bad("put a by", 1, 8);
    }

    private static void singleOnes() {
        CHECKS.about("II: single ones of , ;");
        good("let a from b,c", 1);
        bad("let a from b,,c", 1, 13);
        good("result a;result b", 2);
        bad("result a;;result b", 1, 9);
    }

    private static void textOfLines() {
        CHECKS.about("II: TEXT: LINE {; LINE}");
        bad("", 1, 0);
        bad(" ", 1, 1);
        bad(";", 1, 0);
        bad(";result a", 1, 0);
        good("result a", 1);
        bad("result a;", 1, 9);
        bad("result a result a", 1, 9);
        bad("result a,result a", 1, 8);
        good("result a;result a", 2);
    }

    /** Each token of a line in turn is left out with all behind it, then is another: what is due there is told. */
    private static void shape(String... tokens) {
        String[] others = {"zz", "9", ",", ";", "$", "abcdefghi", "100"};
        String before = "";
        for (int i = 0; i < tokens.length; i++) {
            bad(before, 1, before.length());
            for (String other : others) {
                boolean isWhole = tokens[i].equals("1");
                boolean isName = tokens[i].equals("a");
                if (!isWhole || !other.equals("9")) {
                    bad(before + other, isName && other.equals("zz") ? 2 : 1, before.length());
                }
            }
            before += tokens[i] + " ";
        }
        good(before, 1);
        bad(before + "a", 1, before.length());
        bad(before + "1", 1, before.length());
        if (!tokens[0].equals("let")) {
            bad(before + ",", 1, before.length());
        }
    }

    private static void eachLine() {
        CHECKS.about("II: LINE: get WHOLE to NAME");
        shape("get", "1", "to", "a");
        CHECKS.about("II: let NAME from NAME {, NAME}");
        shape("let", "a", "from", "a");
        bad("let a from a a", 1, 13);
        bad("let a from a,", 1, 13);
        bad("let a from a,1", 1, 13);
        bad("let a from a,;", 1, 13);
        bad("let a from a,a,$", 1, 15);
        CHECKS.about("II: ask WHOLE with NAME to NAME");
        shape("ask", "1", "with", "a", "to", "a");
        CHECKS.about("II: put NAME by WHOLE");
        shape("put", "a", "by", "1");
        CHECKS.about("II: wash NAME of WHOLE");
        shape("wash", "a", "of", "1");
        CHECKS.about("II: result NAME");
        shape("result", "a");
    }

    private static void letsOfOneToFour() {
        CHECKS.about("II: let NAME from NAME {, NAME} (1 to 4)");
        bad("let a from", 1, 10);
        bad("let a from ;", 1, 11);
        String text = "let a from b";
        for (int many = 1; many <= 4; many++) {
            RightsHouse x = Checks.house(0, "");
            CHECKS.taken(text, x, Checks.lines(x, 0, text), 1);
            CHECKS.due(text + ": how many", x.line(0, 0, 1), many);
            text += "," + (char) ('b' + many);
        }
        bad(text, 4, 19);
    }

    private static void nameWords() {
        CHECKS.about("II: NAME: a WORD a .. h");
        for (char letter = 'a'; letter <= 'z'; letter++) {
            if (letter <= 'h') {
                good("result " + letter, 1);
            } else {
                bad("result " + letter, 2, 7);
            }
        }
        bad("result ah", 2, 7);
        bad("result `", 1, 7);
    }

    // ---- II: faults

    private static void firstFromTheLeft() {
        CHECKS.about("II: FAULTS, the first that is met from the left");
        String[] lines = {"result 1", "result i", "put a by 16", "let a from a,a,a,a,a"};
        int[] places = {7, 7, 9, 19};
        for (int left = 0; left < 4; left++) {
            for (int right = 0; right < 4; right++) {
                bad(lines[left] + ";" + lines[right], left + 1, places[left]);
                bad("get 0 to a; " + lines[right] + ";" + lines[left], right + 1, 12 + places[right]);
            }
        }
        bad(ELEVEN + "result i;result a", 2, 106);
        bad(ELEVEN + "result a;result i", 4, 108);
    }

    private static void leastOfOnePlace() {
        CHECKS.about("II: of one place the least number");
        bad("result abcdefghi", 1, 7);
        bad("put a by 160", 1, 9);
        bad("let a from a,a,a,a,abcdefghi", 1, 19);
        bad("let a from a,a,a,a,i", 2, 19);
        bad(TWELVE + ";results a", 1, 108);
    }

    private static void form() {
        CHECKS.about("II: 1 FORM: the first byte that begins no TOKEN");
        bad("$", 1, 0);
        bad("result a $", 1, 9);
        bad("result a;result b;  -", 1, 20);
        bad("result $$", 1, 7);
        CHECKS.about("II: or TOKEN with which no TEXT goes on");
        bad("to a", 1, 0);
        bad("result result", 2, 7);
        bad("result a b", 1, 9);
        bad("get 1 by a", 1, 6);
        CHECKS.about("II: (the end: its place)");
        bad("get", 1, 3);
        bad("get   ", 1, 6);
        bad("let a from a,", 1, 13);
        bad(" ".repeat(300), 1, 300);
        bad(" ".repeat(297) + "get", 1, 300);
    }

    private static void noNames() {
        CHECKS.about("II: 2 a WORD that is no NAME where one is to be; at it");
        bad("get 1 to i", 2, 9);
        bad("let i from a", 2, 4);
        bad("let a from i", 2, 11);
        bad("let a from a,a,a,i", 2, 17);
        bad("ask 1 with i to a", 2, 11);
        bad("ask 1 with a to i", 2, 16);
        bad("put i by 1", 2, 4);
        bad("wash i of 1", 2, 5);
        bad("result i", 2, 7);
    }

    private static void rightsBeyond() {
        CHECKS.about("II: 3 a RIGHT beyond 15");
        good("get 15 to a;put a by 15;wash a of 15", 3);
        bad("get 16 to a", 3, 4);
        bad("put a by 16", 3, 9);
        bad("wash a of 16", 3, 10);
        bad("get 99 to a", 3, 4);
    }

    private static void partsThatThereAreNot() {
        CHECKS.about("II: a PART that there isn't; at its WHOLE");
        good("ask 0 with a to b;ask 1 with a to b", 2);
        bad("ask  2 with a to b", 3, 5);
        RightsHouse x = new RightsHouse();
        for (int parts = 1; parts <= 10; parts++) {
            x.part(0);
            CHECKS.taken("ask of the last of " + parts, x, Checks.lines(x, 0, "ask " + (parts - 1) + " with a to b"), 1);
            CHECKS.due("its part", x.line(0, 0, 1), parts - 1);
            CHECKS.refused("ask of one behind " + parts, x, Checks.lines(x, 0, "ask " + parts + " with a to b"), 4);
            CHECKS.due("its fault()", x.fault(), 3);
            CHECKS.due("its where()", x.where(), 4);
        }
        CHECKS.refused("ask 15", x, Checks.lines(x, 0, "ask 15 with a to b"), 4);
        CHECKS.refused("ask 99", x, Checks.lines(x, 0, "ask 99 with a to b"), 4);
    }

    private static void many() {
        CHECKS.about("II: 4 MANY: a 13th LINE");
        good(TWELVE, 12);
        String[] firsts = {"get", "let", "ask", "put", "wash", "result"};
        for (String first : firsts) {
            bad(TWELVE + ";" + first, 4, 108);
            bad(TWELVE + " ;  " + first + " i", 4, 111);
        }
        CHECKS.about("II: a fifth NAME of a let");
        good("let a from a,b,c,d", 1);
        bad("let a from a,b,c,d,h", 4, 19);
        bad("let a from a,b,c,d , a", 4, 21);
        bad("result a;let a from a,b,c,d,e,f", 4, 28);
        CHECKS.about("II: at its first TOKEN, if it may stand there (else 1; 2 first)");
        bad(TWELVE + ";", 1, 108);
        bad(TWELVE + ";;", 1, 108);
        bad(TWELVE + ";a", 1, 108);
        bad(TWELVE + ";12", 1, 108);
        bad(TWELVE + ";$", 1, 108);
        bad(TWELVE + " result a", 1, 108);
        bad("let a from a,b,c,d,", 1, 19);
        bad("let a from a,b,c,d,5", 1, 19);
        bad("let a from a,b,c,d,;", 1, 19);
        bad("let a from a,b,c,d,,", 1, 19);
        bad("let a from a,b,c,d,$", 1, 19);
        bad("let a from a,b,c,d,let", 2, 19);
        bad("let a from a,b,c,d e", 1, 19);
    }

    public static void main(String[] args) {
        tenParts();
        twelveLines();
        fullHouse();
        sixteenRights();
        eightNames();
        askedWithA();
        grantsAsBits();
        tapeOf300();
        blanks();
        words();
        wholes();
        singleOnes();
        textOfLines();
        eachLine();
        letsOfOneToFour();
        nameWords();
        firstFromTheLeft();
        leastOfOnePlace();
        form();
        noNames();
        rightsBeyond();
        partsThatThereAreNot();
        many();
        CHECKS.end();
    }
}
