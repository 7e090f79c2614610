/** Promises 19 to 27: rights needed, idle, lacking, helped, trim, the cure, without and key. */
public final class RightsTest {
    private static final Checks CHECKS = new Checks();

    private static RightsHouse chain() {
        return Checks.house(Checks.bits(0, 3, 9), "get 0 to a; put a by 4; ask 1 with a to b; wash a of 9",
            Checks.bits(4, 5), "put a by 5; get 6 to c; ask 2 with a to b", Checks.bits(0, 4, 7), "put a by 4; put a by 0; ask 1 with a to b",
            Checks.bits(8), "get 8 to a; ask 0 with a to b");
    }

    private static void needs() {
        RightsHouse x = chain();
        int[] needed = {Checks.bits(0, 4), Checks.bits(5, 6), Checks.bits(0, 4), 0};
        int[] idle = {Checks.bits(3, 9), Checks.bits(4), Checks.bits(7), Checks.bits(8)};
        int[] lacking = {Checks.bits(4), Checks.bits(6), 0, 0};
        int[] helped = {Checks.bits(4, 5), Checks.bits(0), Checks.bits(5), 0};
        for (int part = 0; part < 4; part++) {
            CHECKS.due("needed(" + part + ")", x.needed(part), needed[part]);
            CHECKS.due("idle(" + part + ")", x.idle(part), idle[part]);
            CHECKS.due("lacking(" + part + ")", x.lacking(part), lacking[part]);
            CHECKS.due("helped(" + part + ")", x.helped(part), helped[part]);
        }
        for (int part = -1; part < 5; part += 5) {
            CHECKS.due("needed(" + part + ")", x.needed(part), -1);
            CHECKS.due("idle(" + part + ")", x.idle(part), -1);
            CHECKS.due("lacking(" + part + ")", x.lacking(part), -1);
            CHECKS.due("helped(" + part + ")", x.helped(part), -1);
        }
        CHECKS.due("trim()", x.trim(), 5);
        CHECKS.due("trim() again", x.trim(), 0);
        CHECKS.due("count(2)", x.count(2), 4);
        CHECKS.due("idle(3)", x.idle(3), 0);
        CHECKS.due("lacking(0) behind trim", x.lacking(0), Checks.bits(4));
    }

    private static void noCure() {
        RightsHouse x = Checks.house(3, "get 0 to a; get 1 to a; put a by 1");
        x.meant(0, 1, true);
        x.meant(1, 1, true);
        CHECKS.due("cure() without misuse", x.cure(), 0);
        CHECKS.due("its trouble()", x.trouble(), 0);
        x.meant(0, 1, false);
        CHECKS.due("cure(): taking 0 away", x.cure(), 1);
        CHECKS.due("cured(0)", x.cured(0), 0);
        x.meant(1, 1, false);
        x.meant(0, 1, true);
        CHECKS.due("cure(): the right of the secret is the door's too", x.cure(), -1);
        CHECKS.due("its trouble()", x.trouble(), 5);
        CHECKS.due("cured(0) of the latest that told a number", x.cured(0), 0);
        x.meant(1, 1, true);
        x.cure();
        CHECKS.due("cured(0) of a cure() that told 0", x.cured(0), -1);
    }

    private static void cures() {
        // Two doors, two secrets: the cheapest takes one; of as cheap ones the least.
        RightsHouse x = Checks.house(Checks.bits(0, 1, 2, 3), "get 0 to a; get 1 to b; put a by 2; put b by 2; put b by 3");
        CHECKS.due("misuse(false)", x.misuse(false), 3);
        CHECKS.due("cure() of two", x.cure(), 2);
        CHECKS.due("cured(0)", x.cured(0), 0);
        CHECKS.due("cured(1)", x.cured(1), 1);
        CHECKS.due("cured(2)", x.cured(2), -1);
        CHECKS.due("cured(-1)", x.cured(-1), -1);
        CHECKS.due("count(2): nothing is taken away", x.count(2), 4);
        CHECKS.due("misuse(false) is as it was", x.misuse(false), 3);
        x.meant(0, 2, true);
        CHECKS.due("cure() that keeps a service", x.cure(), 1);
        CHECKS.due("its cured(0)", x.cured(0), 1);
        x.meant(1, 2, true);
        CHECKS.due("cure() that keeps both", x.cure(), 1);
        CHECKS.due("its cured(0): the door", x.cured(0), 3);
        // A service that comes by two ways may lose one of them.
        x = Checks.house(Checks.bits(0, 5), "get 0 to a; put a by 5; ask 1 with b to c; put c by 5",
            Checks.bits(0, 1), "get 0 to a; get 1 to a; result a");
        x.meant(0, 5, true);
        CHECKS.due("cure() with a service by two ways", x.cure(), 1);
        CHECKS.due("its cured(0)", x.cured(0), 101);
    }

    private static void tooMany() {
        RightsHouse x = Checks.house(2047, "get 0 to a;get 1 to a;get 2 to a;get 3 to a;get 4 to a;get 5 to b;get 6 to b;"
            + "get 7 to b;get 8 to b;put a by 9", 2048, "get 11 to a");
        CHECKS.due("cure() of ten", x.cure(), 1);
        CHECKS.due("cured(0) of ten", x.cured(0), 9);
        Checks.lines(x, 0, "get 0 to a;get 1 to a;get 2 to a;get 3 to a;get 4 to a;get 5 to b;get 6 to b;"
            + "get 7 to b;get 8 to b;put a by 9;put b by 10");
        CHECKS.due("cure() of eleven", x.cure(), -1);
        CHECKS.due("its trouble()", x.trouble(), 6);
        CHECKS.due("cured(0) stays", x.cured(0), 9);
        x.grant(0, 2046);
        CHECKS.due("cure() of ten again, one not granted", x.cure(), 2);
        CHECKS.due("its cured(0)", x.cured(0), 9);
        CHECKS.due("its cured(1)", x.cured(1), 10);
        x.grant(0, 511);
        CHECKS.due("cure() without misuse", x.cure(), 0);
        x = Checks.house(2047, "get 0 to a;get 1 to a;get 2 to a;get 3 to a;get 4 to a;get 5 to b;get 6 to b;"
            + "get 7 to b;get 8 to b;get 9 to c;get 10 to c");
        CHECKS.due("cure() of eleven without misuse", x.cure(), 0);
        CHECKS.due("its trouble()", x.trouble(), 0);
    }

    private static void without() {
        RightsHouse x = Checks.house(Checks.bits(0, 1, 2), "get 0 to a; get 1 to b; put a by 2; put b by 2; put b by 3", 1, "get 0 to a");
        CHECKS.due("misuse(false)", x.misuse(false), 2);
        CHECKS.due("without(0, 0)", x.without(0, 0), 1);
        CHECKS.due("without(0, 2)", x.without(0, 2), 0);
        CHECKS.due("without(0, 3): given", x.without(0, 3), 3);
        CHECKS.due("without(0, 15): of no use", x.without(0, 15), 2);
        CHECKS.due("without(1, 0): not asked", x.without(1, 0), 2);
        CHECKS.due("its trouble()", x.trouble(), 0);
        CHECKS.due("count(2) is as it was", x.count(2), 4);
        CHECKS.due("misuse(false) is as it was", x.misuse(false), 2);
        CHECKS.due("without(2, 16)", x.without(2, 16), -1);
        CHECKS.due("its trouble()", x.trouble(), 1);
        CHECKS.due("without(0, 16)", x.without(0, 16), -1);
        CHECKS.due("its trouble()", x.trouble(), 2);
        CHECKS.due("without(0, -1)", x.without(0, -1), -1);
        CHECKS.due("without(-1, 0)", x.without(-1, 0), -1);
        CHECKS.due("its trouble()", x.trouble(), 1);
    }

    private static void key() {
        RightsHouse x = Checks.house(Checks.bits(0, 1, 2), "get 0 to a; get 1 to b; put a by 2; put b by 2; ask 1 with a to c", 0, "put a by 2");
        CHECKS.due("key(): the door", x.key(), 2);
        CHECKS.due("its trouble()", x.trouble(), 0);
        x.meant(0, 2, true);
        CHECKS.due("key(): the least of as good ones", x.key(), 1);
        x.meant(0, 2, false);
        x.meant(1, 2, true);
        CHECKS.due("key(): the least of as good ones, 0", x.key(), 0);
        x.meant(0, 2, true);
        CHECKS.due("key() without misuse", x.key(), -1);
        CHECKS.due("its trouble()", x.trouble(), 5);
        x = Checks.house(Checks.bits(0, 2), "get 0 to a; put a by 2; ask 1 with b to c", Checks.bits(0, 2), "get 0 to a; put a by 2");
        CHECKS.due("key() where none alone does", x.key(), -2);
        CHECKS.due("its trouble()", x.trouble(), 0);
        CHECKS.due("cure() there", x.cure(), 2);
        CHECKS.due("its cured(0)", x.cured(0), 0);
        CHECKS.due("its cured(1)", x.cured(1), 100);
    }

    public static void main(String[] args) {
        needs();
        noCure();
        cures();
        tooMany();
        without();
        key();
        CHECKS.end();
    }
}
