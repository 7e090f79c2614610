import java.util.ArrayList;
import java.util.Comparator;
import java.util.HashMap;
import java.util.List;
import java.util.Map;
import java.util.TreeMap;
import java.util.TreeSet;

/** The document once more, written as plainly and slowly as can be, for the random test to compare with. */
final class Model {
    static final int THROWN = Integer.MIN_VALUE;

    record Token(char kind, String text, int place) { }

    record Line(int kind, int number, int first, int second, List<Integer> from) { }

    private static final List<String> KINDS = List.of("get", "let", "ask", "put", "wash", "result");
    private static final List<String> SHAPES = List.of("R to N", "N from L", "P with N to N", "N by R", "N of R", "N");

    private final List<Integer> grants = new ArrayList<>();
    private final List<List<Line>> texts = new ArrayList<>();
    private final TreeSet<Integer> meant = new TreeSet<>();
    private final StringBuilder tape = new StringBuilder();
    private List<Integer> steps = new ArrayList<>();
    private List<Integer> cured = new ArrayList<>();
    private int trouble;
    private int fault;
    private int where;

    int call(String name, int... x) {
        switch (name) {
            case "part": return part(x[0]);
            case "grant": return grant(x[0], x[1]);
            case "feed": return feed(x);
            case "lines": return lines(x[0], x[1]);
            case "fault": return fault;
            case "where": return trouble == 4 ? where : -1;
            case "line": return line(x[0], x[1], x[2]);
            case "meant": return meant(x[0], x[1], x[2] != 0);
            case "holds": return isPart(x[0]) && x[1] >= 0 && x[1] < 8 ? bits(held(grants).get(x[0] + "/" + x[1])) : -1;
            case "result": return isPart(x[0]) ? bits(results(x[0], held(grants))) : -1;
            case "asked": return isPart(x[0]) ? asked().contains(x[0]) ? 1 : 0 : -1;
            case "door": return door(x[0]);
            case "leaks": return leaks(grants).size();
            case "misuse": return x[0] != 0 ? leaks(grants).size() - misuses(grants).size() : misuses(grants).size();
            case "wrong": return at(new ArrayList<>(misuses(grants)), x[0], -1);
            case "way": return way(x[0], x[1]);
            case "step": return at(steps, x[0], THROWN);
            case "needed": return isPart(x[0]) ? bits(needed(x[0])) : -1;
            case "idle": return isPart(x[0]) ? grants.get(x[0]) & ~bits(needed(x[0])) : -1;
            case "lacking": return isPart(x[0]) ? ~grants.get(x[0]) & bits(needed(x[0])) : -1;
            case "helped": return isPart(x[0]) ? helped(x[0]) : -1;
            case "trim": return trim();
            case "cure": return cure();
            case "cured": return at(cured, x[0], -1);
            case "without": return without(x[0], x[1]);
            case "key": return key();
            case "count": return count(x[0]);
            case "trouble": return trouble;
            default: throw new IllegalArgumentException(name);
        }
    }

    private static int at(List<Integer> list, int i, int otherwise) {
        return i >= 0 && i < list.size() ? list.get(i) : otherwise;
    }

    private static int bits(Iterable<Integer> numbers) {
        int bits = 0;
        for (int number : numbers) {
            bits |= 1 << number;
        }
        return bits;
    }

    private boolean isPart(int part) {
        return part >= 0 && part < grants.size();
    }

    private static boolean has(int bits, int bit) {
        return (bits & 1 << bit) != 0;
    }

    private int told(int number, int answer) {
        trouble = number;
        return answer;
    }

    private int part(int bits) {
        if ((bits & ~0xFFFF) != 0) {
            return told(2, -1);
        }
        if (grants.size() == 10) {
            return told(3, -1);
        }
        grants.add(bits);
        texts.add(List.of());
        return told(0, grants.size() - 1);
    }

    private int grant(int part, int bits) {
        if (!isPart(part)) {
            return told(1, 0);
        }
        if ((bits & ~0xFFFF) != 0) {
            return told(2, 0);
        }
        grants.set(part, bits);
        return told(0, 1);
    }

    private int feed(int[] numbers) {
        if (tape.length() > 280) {
            return -1;
        }
        for (int number : numbers) {
            tape.append((char) (number >>> 24)).append((char) (number >> 16 & 255));
            tape.append((char) (number >> 8 & 255)).append((char) (number & 255));
        }
        return tape.length();
    }

    private int lines(int part, int n) {
        if (!isPart(part)) {
            return told(1, -1);
        }
        if (n < 0 || n > tape.length()) {
            return told(2, -1);
        }
        String text = tape.substring(0, n);
        tape.setLength(0);
        fault = 0;
        List<Line> read = parse(tokens(text));
        if (fault != 0) {
            return told(4, -1);
        }
        texts.set(part, read);
        return told(0, read.size());
    }

    private static List<Token> tokens(String text) {
        List<Token> list = new ArrayList<>();
        int i = 0;
        while (i < text.length()) {
            String rest = text.substring(i);
            String run = rest.replaceFirst("(?s)^([a-z]+|[0-9]+|.).*$", "$1");
            if (run.matches("[a-z]{1,8}")) {
                list.add(new Token('w', run, i));
            } else if (run.matches("[0-9]{1,2}")) {
                list.add(new Token('n', run, i));
            } else if (run.matches("[,;]")) {
                list.add(new Token(run.charAt(0), run, i));
            } else if (!run.equals(" ")) {
                list.add(new Token('?', run, i));
            }
            i += run.length();
        }
        list.add(new Token('$', "", text.length()));
        return list;
    }

    private List<Line> stop(int number, Token at) {
        fault = number;
        where = at.place;
        return null;
    }

    private List<Line> parse(List<Token> tokens) {
        List<Line> read = new ArrayList<>();
        int i = 0;
        while (true) {
            Token head = tokens.get(i);
            int kind = head.kind == 'w' ? KINDS.indexOf(head.text) : -1;
            if (kind < 0) {
                return stop(1, head);
            }
            if (read.size() == 12) {
                return stop(4, head);
            }
            i++;
            List<Integer> names = new ArrayList<>();
            int number = 0;
            for (String due : SHAPES.get(kind).split(" ")) {
                Token token = tokens.get(i);
                if (due.equals("R") || due.equals("P")) {
                    if (token.kind != 'n') {
                        return stop(1, token);
                    }
                    number = Integer.parseInt(token.text);
                    if (number >= (due.equals("R") ? 16 : grants.size())) {
                        return stop(3, token);
                    }
                    i++;
                } else if (due.equals("N") || due.equals("L")) {
                    boolean more = true;
                    while (more) {
                        token = tokens.get(i);
                        if (token.kind != 'w') {
                            return stop(1, token);
                        }
                        if (!token.text.matches("[a-h]")) {
                            return stop(2, token);
                        }
                        if (names.size() == 5) {
                            return stop(4, token);
                        }
                        names.add(token.text.charAt(0) - 'a');
                        i++;
                        more = due.equals("L") && tokens.get(i).kind == ',';
                        i += more ? 1 : 0;
                    }
                } else {
                    if (token.kind != 'w' || !token.text.equals(due)) {
                        return stop(1, token);
                    }
                    i++;
                }
            }
            number = kind == 1 ? names.size() - 1 : number;
            int second = names.size() > 1 ? names.get(1) : -1;
            read.add(new Line(kind, number, names.get(0), second, names.subList(1, names.size())));
            Token behind = tokens.get(i);
            if (behind.kind == '$') {
                return read;
            }
            if (behind.kind != ';') {
                return stop(1, behind);
            }
            i++;
        }
    }

    private int line(int part, int k, int what) {
        if (!isPart(part) || k < 0 || k >= texts.get(part).size() || what < 0 || what > 3) {
            return -1;
        }
        Line line = texts.get(part).get(k);
        return List.of(line.kind, line.number, line.first, line.second).get(what);
    }

    private int meant(int secret, int door, boolean is) {
        if ((secret & ~15) != 0 || (door & ~15) != 0) {
            return told(2, 0);
        }
        if (is) {
            meant.add(100 * secret + door);
        } else {
            meant.remove(100 * secret + door);
        }
        return told(0, 1);
    }

    private TreeSet<Integer> reachedFrom(int part) {
        TreeSet<Integer> found = new TreeSet<>();
        List<Integer> open = new ArrayList<>(List.of(part));
        while (!open.isEmpty()) {
            for (Line line : texts.get(open.remove(0))) {
                if (line.kind == 2 && found.add(line.number)) {
                    open.add(line.number);
                }
            }
        }
        return found;
    }

    private TreeSet<Integer> asked() {
        if (grants.isEmpty()) {
            return new TreeSet<>();
        }
        TreeSet<Integer> found = reachedFrom(0);
        found.add(0);
        return found;
    }

    private boolean isWashed(int part, int name, int secret) {
        for (Line line : texts.get(part)) {
            if (line.kind == 4 && line.first == name && line.number == secret) {
                return true;
            }
        }
        return false;
    }

    private boolean bring(Map<String, TreeSet<Integer>> sets, int part, int name, Iterable<Integer> secrets) {
        boolean more = false;
        for (int secret : new ArrayList<>((java.util.Collection<Integer>) secrets)) {
            if (!isWashed(part, name, secret)) {
                more |= sets.get(part + "/" + name).add(secret);
            }
        }
        return more;
    }

    private TreeSet<Integer> results(int part, Map<String, TreeSet<Integer>> sets) {
        TreeSet<Integer> all = new TreeSet<>();
        for (Line line : texts.get(part)) {
            if (line.kind == 5) {
                all.addAll(sets.get(part + "/" + line.first));
            }
        }
        return all;
    }

    private Map<String, TreeSet<Integer>> held(List<Integer> given) {
        Map<String, TreeSet<Integer>> sets = new HashMap<>();
        for (int part = 0; part < grants.size(); part++) {
            for (int name = 0; name < 8; name++) {
                sets.put(part + "/" + name, new TreeSet<>());
            }
        }
        boolean more = true;
        while (more) {
            more = false;
            for (int part : asked()) {
                for (Line line : texts.get(part)) {
                    if (line.kind == 0 && has(given.get(part), line.number)) {
                        more |= sets.get(part + "/" + line.first).add(line.number);
                    }
                    if (line.kind == 1) {
                        for (int other : line.from) {
                            more |= bring(sets, part, line.first, sets.get(part + "/" + other));
                        }
                    }
                    if (line.kind == 2) {
                        more |= bring(sets, line.number, 0, sets.get(part + "/" + line.first));
                        more |= bring(sets, part, line.second, results(line.number, sets));
                    }
                }
            }
        }
        return sets;
    }

    private TreeSet<Integer> leaks(List<Integer> given) {
        TreeSet<Integer> pairs = new TreeSet<>();
        Map<String, TreeSet<Integer>> sets = held(given);
        for (int part : asked()) {
            for (Line line : texts.get(part)) {
                if (line.kind == 3 && has(given.get(part), line.number)) {
                    for (int secret : sets.get(part + "/" + line.first)) {
                        pairs.add(100 * secret + line.number);
                    }
                }
            }
        }
        return pairs;
    }

    private TreeSet<Integer> misuses(List<Integer> given) {
        TreeSet<Integer> pairs = leaks(given);
        pairs.removeAll(meant);
        return pairs;
    }

    private int door(int door) {
        if (door < 0 || door > 15) {
            return -1;
        }
        TreeSet<Integer> secrets = new TreeSet<>();
        for (int pair : leaks(grants)) {
            if (pair % 100 == door) {
                secrets.add(pair / 100);
            }
        }
        return bits(secrets);
    }

    private static final Comparator<List<Integer>> BY_LINES = (one, other) -> {
        for (int i = 0; i < one.size() && i < other.size(); i++) {
            if (!one.get(i).equals(other.get(i))) {
                return one.get(i) - other.get(i);
            }
        }
        return one.size() - other.size();
    };

    /** All rows of n lines at once, in their order, but only one to each name of a part and number of lines. */
    private int way(int secret, int door) {
        if ((secret & ~15) != 0 || (door & ~15) != 0) {
            return told(2, -1);
        }
        List<TreeMap<String, List<Integer>>> byLength = new ArrayList<>();
        List<Integer> best = null;
        for (int length = 0; length < 200; length++) {
            byLength.add(new TreeMap<>());
        }
        for (int part : asked()) {
            for (int k = 0; k < texts.get(part).size(); k++) {
                Line line = texts.get(part).get(k);
                if (line.kind == 0 && line.number == secret && has(grants.get(part), secret)) {
                    reach(byLength, part, line.first, List.of(100 * part + k));
                }
            }
        }
        for (int length = 1; length < 150 && best == null; length++) {
            for (Map.Entry<String, List<Integer>> entry : new ArrayList<>(byLength.get(length).entrySet())) {
                List<Integer> found = goOn(byLength, entry.getKey(), entry.getValue(), secret, door);
                if (found != null && (best == null || BY_LINES.compare(found, best) < 0)) {
                    best = found;
                }
            }
        }
        if (best == null) {
            return told(0, -2);
        }
        steps = best;
        return told(0, best.size());
    }

    private static void reach(List<TreeMap<String, List<Integer>>> byLength, int part, int name, List<Integer> row) {
        byLength.get(row.size()).merge(part + "/" + name, row,
            (one, other) -> BY_LINES.compare(one, other) <= 0 ? one : other);
    }

    private static List<Integer> longer(List<Integer> row, int... more) {
        List<Integer> all = new ArrayList<>(row);
        for (int step : more) {
            all.add(step);
        }
        return all;
    }

    private List<Integer> goOn(List<TreeMap<String, List<Integer>>> byLength, String key, List<Integer> row,
            int secret, int door) {
        int part = Integer.parseInt(key.split("/")[0]);
        int name = Integer.parseInt(key.split("/")[1]);
        List<Integer> out = null;
        for (int k = 0; k < texts.get(part).size(); k++) {
            Line line = texts.get(part).get(k);
            int step = 100 * part + k;
            if (line.kind == 3 && line.first == name && line.number == door && has(grants.get(part), door)) {
                out = out == null ? longer(row, step) : out;
            }
            if (line.kind == 1 && line.from.contains(name) && !isWashed(part, line.first, secret)) {
                reach(byLength, part, line.first, longer(row, step));
            }
            if (line.kind == 2 && line.first == name && !isWashed(line.number, 0, secret)) {
                reach(byLength, line.number, 0, longer(row, step));
            }
            if (line.kind == 5 && line.first == name) {
                for (int asker : asked()) {
                    for (int i = 0; i < texts.get(asker).size(); i++) {
                        Line ask = texts.get(asker).get(i);
                        if (ask.kind == 2 && ask.number == part && !isWashed(asker, ask.second, secret)) {
                            reach(byLength, asker, ask.second, longer(row, step, 100 * asker + i));
                        }
                    }
                }
            }
        }
        return out;
    }

    private TreeSet<Integer> needed(int part) {
        TreeSet<Integer> rights = new TreeSet<>();
        for (Line line : texts.get(part)) {
            if ((line.kind == 0 || line.kind == 3) && asked().contains(part)) {
                rights.add(line.number);
            }
        }
        return rights;
    }

    private int helped(int part) {
        int bits = 0;
        if (asked().contains(part)) {
            for (int other : reachedFrom(part)) {
                bits |= grants.get(other) & bits(needed(other));
            }
        }
        return bits & ~grants.get(part);
    }

    private int trim() {
        int before = count(2);
        for (int part = 0; part < grants.size(); part++) {
            grants.set(part, grants.get(part) & bits(needed(part)));
        }
        return before - count(2);
    }

    private static List<Integer> lessened(List<Integer> given, List<Integer> gone) {
        List<Integer> left = new ArrayList<>(given);
        for (int grant : gone) {
            left.set(grant / 100, left.get(grant / 100) & ~(1 << grant % 100));
        }
        return left;
    }

    private int cure() {
        if (misuses(grants).isEmpty()) {
            cured = new ArrayList<>();
            return told(0, 0);
        }
        List<Integer> candidates = new ArrayList<>();
        for (int part = 0; part < grants.size(); part++) {
            for (int right : needed(part)) {
                if (has(grants.get(part), right)) {
                    candidates.add(100 * part + right);
                }
            }
        }
        if (candidates.size() > 10) {
            return told(6, -1);
        }
        TreeSet<Integer> service = leaks(grants);
        service.retainAll(meant);
        List<Integer> best = null;
        for (int choice = 0; choice < 1 << candidates.size(); choice++) {
            List<Integer> gone = new ArrayList<>();
            for (int i = 0; i < candidates.size(); i++) {
                if (has(choice, i)) {
                    gone.add(candidates.get(i));
                }
            }
            boolean better = best == null || gone.size() < best.size()
                || gone.size() == best.size() && BY_LINES.compare(gone, best) < 0;
            if (better) {
                List<Integer> left = lessened(grants, gone);
                best = misuses(left).isEmpty() && leaks(left).containsAll(service) ? gone : best;
            }
        }
        if (best == null) {
            return told(5, -1);
        }
        cured = best;
        return told(0, best.size());
    }

    private int without(int part, int right) {
        if (!isPart(part)) {
            return told(1, -1);
        }
        if (right < 0 || right > 15) {
            return told(2, -1);
        }
        List<Integer> other = new ArrayList<>(grants);
        other.set(part, grants.get(part) ^ 1 << right);
        return told(0, misuses(other).size());
    }

    private int key() {
        int most = misuses(grants).size();
        if (most == 0) {
            return told(5, -1);
        }
        int best = -2;
        int fewest = most;
        for (int part = 0; part < grants.size(); part++) {
            for (int right = 0; right < 16; right++) {
                if (has(grants.get(part), right)) {
                    int left = misuses(lessened(grants, List.of(100 * part + right))).size();
                    if (left < fewest) {
                        fewest = left;
                        best = 100 * part + right;
                    }
                }
            }
        }
        return told(0, best);
    }

    private int count(int what) {
        int sum = 0;
        for (int part = 0; part < grants.size(); part++) {
            sum += what == 1 ? texts.get(part).size() : Integer.bitCount(grants.get(part));
        }
        switch (what) {
            case 0: return grants.size();
            case 1: return sum;
            case 2: return sum;
            case 3: return meant.size();
            case 4: return tape.length();
            default: return -1;
        }
    }
}
