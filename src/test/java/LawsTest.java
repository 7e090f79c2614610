import java.util.ArrayList;
import java.util.Collections;
import java.util.List;
import java.util.Random;

/** What follows from the document's words, on small houses: rows of lines tried one by one, grants really taken away. */
public final class LawsTest {
    private static final Checks CHECKS = new Checks();
    private static final int GET = 0;
    private static final int LET = 1;
    private static final int ASK = 2;
    private static final int PUT = 3;
    private static final int WASH = 4;
    private static final int RESULT = 5;
    private static final int NAMES = 3;
    private static final int RIGHTS = 3;
    private static final int MOST_LINES = 12;
    private static final int MOST_NEEDED = 10;
    private static final int LONGEST_ROW = 9;

    record Line(int kind, int number, int first, int second, List<Integer> from) {
        String text() {
            switch (kind) {
                case GET: return "get " + number + " to " + letter(first);
                case LET: return "let " + letter(first) + " from " + letters();
                case ASK: return "ask " + number + " with " + letter(first) + " to " + letter(second);
                case PUT: return "put " + letter(first) + " by " + number;
                case WASH: return "wash " + letter(first) + " of " + number;
                default: return "result " + letter(first);
            }
        }

        private String letters() {
            List<String> all = new ArrayList<>();
            for (int name : from) {
                all.add(letter(name));
            }
            return String.join(",", all);
        }

        private static String letter(int name) {
            return String.valueOf((char) ('a' + name));
        }
    }

    private final Random random;
    private final String told;
    private final List<List<Line>> parts = new ArrayList<>();
    private final int[] grants;
    private final int[] meant = new int[RIGHTS];
    private final List<Integer> row = new ArrayList<>();

    private LawsTest(int seed) {
        random = new Random(seed);
        told = "seed " + seed + ": ";
        int count = 1 + random.nextInt(4);
        grants = new int[count];
        for (int part = 0; part < count; part++) {
            grants[part] = random.nextInt(1 << RIGHTS) | random.nextInt(1 << RIGHTS);
            List<Line> lines = new ArrayList<>();
            for (int k = 4 + random.nextInt(MOST_LINES - 4); k > 0; k--) {
                lines.add(someLine(count));
            }
            parts.add(lines);
        }
        for (int door = 0; door < RIGHTS; door++) {
            meant[door] = random.nextInt(1 << RIGHTS) & random.nextInt(1 << RIGHTS);
        }
    }

    private Line someLine(int count) {
        int[] kinds = {GET, GET, GET, LET, LET, LET, ASK, ASK, ASK, ASK, PUT, PUT, PUT, WASH, RESULT, RESULT};
        int kind = kinds[random.nextInt(kinds.length)];
        List<Integer> from = new ArrayList<>();
        for (int i = kind == LET ? 1 + random.nextInt(3) : 0; i > 0; i--) {
            from.add(random.nextInt(NAMES));
        }
        int number = random.nextInt(kind == ASK ? count : RIGHTS);
        return new Line(kind, number, random.nextInt(NAMES), random.nextInt(NAMES), from);
    }

    private RightsHouse house(int[] given, List<List<Line>> texts) {
        RightsHouse x = new RightsHouse();
        for (int bits : given) {
            x.part(bits);
        }
        for (int part = 0; part < given.length; part++) {
            List<String> all = new ArrayList<>();
            for (Line line : texts.get(part)) {
                all.add(line.text());
            }
            CHECKS.due(told + "lines", Checks.lines(x, part, String.join(";", all)), all.size());
        }
        for (int pair = 0; pair < RIGHTS * RIGHTS; pair++) {
            x.meant(pair / RIGHTS, pair % RIGHTS, has(meant[pair % RIGHTS], pair / RIGHTS));
        }
        return x;
    }

    private RightsHouse house() {
        return house(grants, parts);
    }

    private static boolean has(int bits, int bit) {
        return (bits >> bit & 1) == 1;
    }

    private boolean isAsked(int part) {
        boolean[] asked = new boolean[grants.length];
        asked[0] = true;
        for (int round = 0; round < grants.length; round++) {
            for (int asker = 0; asker < grants.length; asker++) {
                for (Line line : parts.get(asker)) {
                    if (asked[asker] && line.kind == ASK) {
                        asked[line.number] = true;
                    }
                }
            }
        }
        return asked[part];
    }

    private int needed(int part) {
        int bits = 0;
        for (Line line : parts.get(part)) {
            bits |= isAsked(part) && (line.kind == GET || line.kind == PUT) ? 1 << line.number : 0;
        }
        return bits;
    }

    // ---- WAY: every row of lines, the least first

    private boolean isWashed(int part, int name, int secret) {
        for (Line line : parts.get(part)) {
            if (line.kind == WASH && line.first == name && line.number == secret) {
                return true;
            }
        }
        return false;
    }

    /** Whether a row of so many lines begins with some get and ends with a put of the door; it is kept in row. */
    private boolean rowOf(int length, int secret, int door) {
        for (int part = 0; part < grants.length; part++) {
            for (int k = 0; k < parts.get(part).size() && isAsked(part); k++) {
                Line line = parts.get(part).get(k);
                if (line.kind == GET && line.number == secret && has(grants[part], secret)) {
                    row.clear();
                    row.add(100 * part + k);
                    if (goOn(part, line.first, length - 1, secret, door)) {
                        return true;
                    }
                }
            }
        }
        return false;
    }

    private boolean goOn(int part, int name, int left, int secret, int door) {
        for (int k = 0; k < parts.get(part).size() && left > 0; k++) {
            Line line = parts.get(part).get(k);
            row.add(100 * part + k);
            boolean found = false;
            if (line.kind == PUT && line.first == name && left == 1) {
                found = line.number == door && has(grants[part], door);
            } else if (line.kind == LET && line.from.contains(name) && !isWashed(part, line.first, secret)) {
                found = goOn(part, line.first, left - 1, secret, door);
            } else if (line.kind == ASK && line.first == name && !isWashed(line.number, 0, secret)) {
                found = goOn(line.number, 0, left - 1, secret, door);
            } else if (line.kind == RESULT && line.first == name) {
                found = goOnBehindResult(part, left - 1, secret, door);
            }
            if (found) {
                return true;
            }
            row.remove(row.size() - 1);
        }
        return false;
    }

    private boolean goOnBehindResult(int part, int left, int secret, int door) {
        for (int asker = 0; asker < grants.length && left > 0; asker++) {
            for (int k = 0; k < parts.get(asker).size() && isAsked(asker); k++) {
                Line line = parts.get(asker).get(k);
                if (line.kind == ASK && line.number == part && !isWashed(asker, line.second, secret)) {
                    row.add(100 * asker + k);
                    if (goOn(asker, line.second, left - 1, secret, door)) {
                        return true;
                    }
                    row.remove(row.size() - 1);
                }
            }
        }
        return false;
    }

    private void ways() {
        RightsHouse x = house();
        for (int secret = 0; secret < RIGHTS; secret++) {
            for (int door = 0; door < RIGHTS; door++) {
                String call = told + "way(" + secret + ", " + door + ")";
                int length = 2;
                while (length <= LONGEST_ROW && !rowOf(length, secret, door)) {
                    length++;
                }
                int got = x.way(secret, door);
                if (length <= LONGEST_ROW) {
                    CHECKS.due(call, got, length);
                    CHECKS.steps(call, x, row.stream().mapToInt(Integer::intValue).toArray());
                } else {
                    CHECKS.due(call + " is none or longer", got == -2 || got > LONGEST_ROW, true);
                }
                CHECKS.due(call + " is of a leak", got > 0, has(x.door(door), secret));
            }
        }
    }

    // ---- rights: the same house made with other grants

    private int[] turned(int part, int right) {
        int[] other = grants.clone();
        other[part] ^= 1 << right;
        return other;
    }

    private void withouts() {
        RightsHouse x = house();
        int misuses = x.misuse(false);
        int best = misuses == 0 ? -1 : -2;
        int fewest = misuses;
        for (int part = 0; part < grants.length; part++) {
            for (int right = 0; right < RIGHTS; right++) {
                int left = house(turned(part, right), parts).misuse(false);
                CHECKS.due(told + "without(" + part + ", " + right + ")", x.without(part, right), left);
                if (has(grants[part], right) && left < fewest) {
                    fewest = left;
                    best = 100 * part + right;
                }
            }
        }
        CHECKS.due(told + "key()", x.key(), best);
    }

    private List<Integer> neededGrants() {
        List<Integer> all = new ArrayList<>();
        for (int part = 0; part < grants.length; part++) {
            for (int right = 0; right < RIGHTS; right++) {
                if (has(grants[part] & needed(part), right)) {
                    all.add(100 * part + right);
                }
            }
        }
        return all;
    }

    private boolean cures(List<Integer> gone, RightsHouse before) {
        int[] other = grants.clone();
        for (int grant : gone) {
            other[grant / 100] &= ~(1 << grant % 100);
        }
        RightsHouse x = house(other, parts);
        for (int door = 0; door < RIGHTS; door++) {
            if ((x.door(door) & meant[door]) != (before.door(door) & meant[door])) {
                return false;
            }
        }
        return x.misuse(false) == 0;
    }

    /** The first choice of so many from here on that cures, the least first; null if none does. */
    private List<Integer> firstCure(List<Integer> all, int from, int many, List<Integer> gone, RightsHouse before) {
        if (many == 0) {
            return cures(gone, before) ? gone : null;
        }
        for (int i = from; i < all.size(); i++) {
            List<Integer> more = new ArrayList<>(gone);
            more.add(all.get(i));
            List<Integer> found = firstCure(all, i + 1, many - 1, more, before);
            if (found != null) {
                return found;
            }
        }
        return null;
    }

    private void cure() {
        RightsHouse x = house();
        List<Integer> all = neededGrants();
        if (all.size() > MOST_NEEDED && x.misuse(false) > 0) {
            CHECKS.refused(told + "cure() of too many", x, x.cure(), 6);
            return;
        }
        List<Integer> due = null;
        for (int many = 0; many <= all.size() && due == null; many++) {
            due = firstCure(all, 0, many, List.of(), x);
        }
        CHECKS.due(told + "cure()", x.cure(), due == null ? -1 : due.size());
        CHECKS.due(told + "cure(), trouble()", x.trouble(), due == null ? 5 : 0);
        for (int i = 0; due != null && i < due.size(); i++) {
            CHECKS.due(told + "cured(" + i + ")", x.cured(i), due.get(i));
        }
        CHECKS.due(told + "cured behind the last", x.cured(due == null ? 0 : due.size()), -1);
    }

    private void needs() {
        RightsHouse x = house();
        for (int part = 0; part < grants.length; part++) {
            CHECKS.due(told + "asked(" + part + ")", x.asked(part), isAsked(part) ? 1 : 0);
            CHECKS.due(told + "needed(" + part + ")", x.needed(part), needed(part));
            CHECKS.due(told + "idle(" + part + ")", x.idle(part), grants[part] & ~needed(part));
            CHECKS.due(told + "lacking(" + part + ")", x.lacking(part), needed(part) & ~grants[part]);
        }
        String doors = doors(x);
        int before = x.count(2);
        CHECKS.due(told + "trim() and count(2)", x.trim() + x.count(2), before);
        CHECKS.same(told + "trim()", doors(x), doors);
    }

    // ---- what is held

    private String doors(RightsHouse x) {
        StringBuilder text = new StringBuilder();
        for (int door = 0; door < RIGHTS; door++) {
            text.append(x.door(door)).append(' ');
        }
        return text.append(x.leaks()).append(' ').append(x.misuse(false)).append(' ').append(x.misuse(true)).toString();
    }

    private String held(RightsHouse x) {
        StringBuilder text = new StringBuilder(doors(x));
        for (int part = 0; part < grants.length; part++) {
            for (int name = 0; name < NAMES; name++) {
                text.append(' ').append(x.holds(part, name));
            }
            text.append(" result ").append(x.result(part)).append(" helped ").append(x.helped(part));
        }
        return text.toString();
    }

    /** In any order, as often as can be: other orders, and some lines twice, hold the same. */
    private void anyOrder() {
        String due = held(house());
        List<List<Line>> others = new ArrayList<>();
        for (List<Line> lines : parts) {
            List<Line> twice = new ArrayList<>(lines);
            twice.addAll(lines.subList(0, Math.min(lines.size(), MOST_LINES - lines.size())));
            Collections.shuffle(twice, random);
            others.add(twice);
        }
        CHECKS.same(told + "lines in another order", held(house(grants, others)), due);
    }

    private void sums() {
        RightsHouse x = house();
        int leaks = 0;
        int services = 0;
        for (int door = 0; door < RIGHTS; door++) {
            leaks += Integer.bitCount(x.door(door));
            services += Integer.bitCount(x.door(door) & meant[door]);
        }
        CHECKS.due(told + "leaks()", x.leaks(), leaks);
        CHECKS.due(told + "misuse(true)", x.misuse(true), services);
        CHECKS.due(told + "misuse(false)", x.misuse(false), leaks - services);
        int i = 0;
        for (int secret = 0; secret < RIGHTS; secret++) {
            for (int door = 0; door < RIGHTS; door++) {
                if (has(x.door(door) & ~meant[door], secret)) {
                    CHECKS.due(told + "wrong(" + i + ")", x.wrong(i), 100 * secret + door);
                    i++;
                }
            }
        }
        CHECKS.due(told + "wrong behind the last", x.wrong(i), -1);
    }

    public static void main(String[] args) {
        int runs = args.length > 0 ? Integer.parseInt(args[0]) : 400;
        for (int seed = 0; seed < runs; seed++) {
            LawsTest test = new LawsTest(seed);
            CHECKS.about("III: WAY of a LEAK: the fewest LINES; of as short ones the first by LINES from the beginning");
            test.ways();
            CHECKS.about("26, 27: if a GRANT were taken away (or given); without which most MISUSES would be gone");
            test.withouts();
            CHECKS.about("IV: CURE: the fewest GRANTS taken away so that there is no MISUSE, and each SERVICE is still there");
            test.cure();
            CHECKS.about("IV: NEEDED, IDLE, LACKING; 23: IDLE GRANTS of all PARTS go");
            test.needs();
            CHECKS.about("III: LINES are taken in any order, as often as can be");
            test.anyOrder();
            CHECKS.about("14 to 16: LEAKS, MISUSE, SERVICE");
            test.sums();
        }
        CHECKS.end();
    }
}
