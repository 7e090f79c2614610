import java.nio.charset.StandardCharsets;
import java.util.Arrays;
import java.util.Random;

/** Runs of calls drawn by fixed seeds, each answer compared with the plain model's. */
public final class RandomTest {
    private static final String[] WORDS = {"get", "let", "ask", "put", "wash", "result", "to", "from", "with", "by",
        "of", "a", "b", "c", "h", "i", "z", "aa", "abcdefgh", "abcdefghi", "0", "7", "15", "16", "99", "100", "007",
        ",", ";", "$", "A", "\t", " ", "  "};
    private final Random random;
    private final RightsHouse house = new RightsHouse();
    private final Model model = new Model();
    private final Checks checks;
    private final int seed;
    private final int rights;
    private final int names;
    private final int mostParts;
    private final int spoilt;
    private int parts;
    private int calls;

    private RandomTest(int seed, Checks checks) {
        this.seed = seed;
        this.checks = checks;
        random = new Random(seed);
        rights = 2 + random.nextInt(seed % 5 == 0 ? 15 : 4);
        names = 2 + random.nextInt(seed % 3 == 0 ? 7 : 3);
        mostParts = 1 + random.nextInt(seed % 4 == 0 ? 10 : 4);
        spoilt = 3 + random.nextInt(30);
    }

    private int ask(String name, int... x) {
        int got;
        switch (name) {
            case "part": got = house.part(x[0]); break;
            case "grant": got = house.grant(x[0], x[1]) ? 1 : 0; break;
            case "feed": got = house.feed(x[0], x[1], x[2], x[3], x[4]); break;
            case "lines": got = house.lines(x[0], x[1]); break;
            case "fault": got = house.fault(); break;
            case "where": got = house.where(); break;
            case "line": got = house.line(x[0], x[1], x[2]); break;
            case "meant": got = house.meant(x[0], x[1], x[2] != 0) ? 1 : 0; break;
            case "holds": got = house.holds(x[0], x[1]); break;
            case "result": got = house.result(x[0]); break;
            case "asked": got = house.asked(x[0]); break;
            case "door": got = house.door(x[0]); break;
            case "leaks": got = house.leaks(); break;
            case "misuse": got = house.misuse(x[0] != 0); break;
            case "wrong": got = house.wrong(x[0]); break;
            case "way": got = house.way(x[0], x[1]); break;
            case "step": got = Checks.step(house, x[0]); break;
            case "needed": got = house.needed(x[0]); break;
            case "idle": got = house.idle(x[0]); break;
            case "lacking": got = house.lacking(x[0]); break;
            case "helped": got = house.helped(x[0]); break;
            case "trim": got = house.trim(); break;
            case "cure": got = house.cure(); break;
            case "cured": got = house.cured(x[0]); break;
            case "without": got = house.without(x[0], x[1]); break;
            case "key": got = house.key(); break;
            case "count": got = house.count(x[0]); break;
            case "trouble": got = house.trouble(); break;
            default: throw new IllegalArgumentException(name);
        }
        calls++;
        checks.due("seed " + seed + ", call " + calls + ": " + name + Arrays.toString(x), got, model.call(name, x));
        return got;
    }

    private int some(int bound) {
        if (random.nextInt(40) == 0) {
            int[] odd = {-1, bound, bound + 1, Integer.MIN_VALUE, Integer.MAX_VALUE, 65535, 65536, 10, 12, 16};
            return odd[random.nextInt(odd.length)];
        }
        return random.nextInt(bound);
    }

    private int someGrants() {
        int bits = 0;
        for (int i = 0; i < rights; i++) {
            bits |= random.nextInt(5) == 0 ? 0 : 1 << i;
        }
        return random.nextInt(40) == 0 ? some(65536) : bits;
    }

    private String name() {
        return String.valueOf((char) ('a' + random.nextInt(names)));
    }

    private String line() {
        int right = random.nextInt(100) == 0 ? random.nextInt(100) : random.nextInt(rights);
        int other = random.nextInt(100) == 0 ? random.nextInt(100) : random.nextInt(parts);
        switch (random.nextInt(14)) {
            case 0: case 1: return "get " + right + " to " + name();
            case 2: case 3: return "put " + name() + " by " + right;
            case 4: case 5: case 6: case 7: return "ask " + other + " with " + name() + " to " + name();
            case 8: case 9: return "result " + name();
            case 10: return "wash " + name() + " of " + right;
            default: return let();
        }
    }

    private String let() {
        StringBuilder text = new StringBuilder("let " + name() + " from " + name());
        for (int i = random.nextInt(4); i > 0; i--) {
            text.append(random.nextBoolean() ? "," : " , ").append(name());
        }
        return text.toString();
    }

    private String text() {
        StringBuilder text = new StringBuilder(line());
        int count = random.nextInt(20) == 0 ? 12 : random.nextInt(12);
        for (int i = 0; i < count && text.length() < 265; i++) {
            text.append(random.nextBoolean() ? ";" : " ; ").append(line());
        }
        if (random.nextInt(spoilt) == 0) {
            spoil(text);
        }
        return text.length() > 300 ? text.substring(0, 300) : text.toString();
    }

    private void spoil(StringBuilder text) {
        int at = random.nextInt(text.length() + 1);
        switch (random.nextInt(3)) {
            case 0: text.insert(at, WORDS[random.nextInt(WORDS.length)]); break;
            case 1: text.delete(at, Math.min(text.length(), at + 1 + random.nextInt(4))); break;
            default: text.insert(at, (char) random.nextInt(256)); break;
        }
    }

    private void feedAndRead(String text) {
        byte[] bytes = Arrays.copyOf(text.getBytes(StandardCharsets.ISO_8859_1), 300);
        for (int i = 0; i < text.length(); i += 20) {
            int[] five = new int[5];
            for (int j = 0; j < 20; j++) {
                five[j / 4] = five[j / 4] << 8 | bytes[i + j] & 255;
            }
            ask("feed", five);
        }
        ask("lines", some(parts), random.nextInt(50) == 0 ? some(310) : text.length());
        ask("trouble");
        ask("fault");
        ask("where");
    }

    private void change() {
        switch (random.nextInt(10)) {
            case 0:
                if (parts < mostParts || random.nextInt(20) == 0) {
                    parts = Math.max(parts, ask("part", someGrants()) + 1);
                }
                break;
            case 1: case 5: case 6: ask("grant", some(parts), someGrants()); break;
            case 2: case 3: ask("meant", some(rights), some(rights), random.nextInt(4)); break;
            case 4:
                if (random.nextInt(10) == 0) {
                    ask("trim");
                }
                break;
            default: feedAndRead(text()); break;
        }
    }

    private void look() {
        switch (random.nextInt(20)) {
            case 0: ask("line", some(parts), some(9), some(4)); break;
            case 1: case 2: ask("holds", some(parts), some(names)); break;
            case 3: ask("result", some(parts)); break;
            case 4: ask("asked", some(parts)); break;
            case 5: ask("door", some(rights)); break;
            case 6: ask("leaks"); break;
            case 7: ask("misuse", random.nextInt(2)); break;
            case 8: ask("wrong", some(6)); break;
            case 9: case 10: wayWithSteps(); break;
            case 11: ask("needed", some(parts)); break;
            case 12: ask("idle", some(parts)); break;
            case 13: ask("lacking", some(parts)); break;
            case 14: ask("helped", some(parts)); break;
            case 15: cureWithAll(); break;
            case 16: ask("without", some(parts), some(rights)); break;
            case 17: ask("key"); break;
            case 18: ask("count", some(5)); break;
            default: ask("step", some(5)); ask("cured", some(3)); break;
        }
        ask("trouble");
        if (random.nextInt(4) == 0) {
            ask("where");
        }
    }

    private void wayWithSteps() {
        int pair = random.nextInt(3) == 0 ? RightsHouse.NONE : house.wrong(random.nextInt(3));
        int length = pair < 0 ? ask("way", some(rights), some(rights)) : ask("way", pair / 100, pair % 100);
        for (int i = 0; i <= length; i++) {
            ask("step", i);
        }
    }

    private void cureWithAll() {
        int count = ask("cure");
        for (int i = 0; i <= count; i++) {
            ask("cured", i);
        }
    }

    private void run() {
        parts = 1;
        ask("leaks");
        look();
        ask("part", someGrants());
        for (int i = 1; i < mostParts && random.nextInt(5) != 0; i++) {
            parts = Math.max(parts, ask("part", someGrants()) + 1);
        }
        for (int i = 0; i < parts; i++) {
            feedAndRead(text());
        }
        while (calls < 480) {
            if (random.nextInt(4) == 0) {
                change();
            } else {
                look();
            }
        }
    }

    public static void main(String[] args) {
        Checks checks = new Checks();
        int runs = args.length > 0 ? Integer.parseInt(args[0]) : 300;
        for (int seed = 0; seed < runs; seed++) {
            new RandomTest(seed, checks).run();
        }
        checks.end();
    }
}
