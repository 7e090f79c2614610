import java.nio.charset.StandardCharsets;
import java.util.Arrays;
import java.util.NoSuchElementException;

/** What the tests share: feeding texts, telling wrong answers, ending with 1 if there was one. */
final class Checks {
    private int wrong;
    private int made;
    private String words = "";
    private int madeBefore = -1;

    /** The words of the document that the next answers are about: told with each wrong one, and never without any. */
    void about(String sentence) {
        if (made == madeBefore) {
            wrong++;
            System.out.println("nothing was looked at about [" + words + "]");
        }
        words = sentence;
        madeBefore = made;
    }

    void due(String call, long got, long want) {
        made++;
        if (got != want) {
            wrong++;
            System.out.println((words.isEmpty() ? "" : "[" + words + "] ") + call + " answered " + got + ", due is " + want);
        }
    }

    void same(String call, String got, String want) {
        made++;
        if (!got.equals(want)) {
            wrong++;
            System.out.println("[" + words + "] " + call + " left\n  " + got + ", due is\n  " + want);
        }
    }

    /** A refused call: what it answered, and what trouble() says of it. */
    void refused(String call, RightsHouse house, int got, int trouble) {
        due(call, got, RightsHouse.NONE);
        due(call + ", trouble()", house.trouble(), trouble);
    }

    void denied(String call, RightsHouse house, boolean got, int trouble) {
        due(call, got, false);
        due(call + ", trouble()", house.trouble(), trouble);
    }

    /** A call that may be refused and wasn't. */
    void taken(String call, RightsHouse house, int got, int want) {
        due(call, got, want);
        due(call + ", trouble()", house.trouble(), 0);
    }

    void allowed(String call, RightsHouse house, boolean got) {
        due(call, got, true);
        due(call + ", trouble()", house.trouble(), 0);
    }

    void due(String call, boolean got, boolean want) {
        due(call, got ? 1 : 0, want ? 1 : 0);
    }

    /** The answer of step(i), or Integer.MIN_VALUE if it throws. */
    static int step(RightsHouse house, int i) {
        try {
            return house.step(i);
        } catch (NoSuchElementException e) {
            return Integer.MIN_VALUE;
        }
    }

    void noStep(String call, RightsHouse house, int i) {
        due(call, step(house, i), Integer.MIN_VALUE);
    }

    /** Each step of the latest way, and that there is none behind. */
    void steps(String call, RightsHouse house, int... want) {
        for (int i = 0; i < want.length; i++) {
            due(call + ", step(" + i + ")", step(house, i), want[i]);
        }
        noStep(call + ", step behind the last", house, want.length);
    }

    /** Feeds a text and reads it all as a part's lines. */
    static int lines(RightsHouse house, int part, String text) {
        feed(house, text);
        return house.lines(part, text.length());
    }

    /** A house whose parts have these grants and texts: grants, text, grants, text .. */
    static RightsHouse house(Object... rows) {
        RightsHouse house = new RightsHouse();
        for (int i = 0; i < rows.length; i += 2) {
            house.part((Integer) rows[i]);
        }
        for (int i = 1; i < rows.length; i += 2) {
            String text = (String) rows[i];
            if (!text.isEmpty() && lines(house, i / 2, text) < 0) {
                throw new IllegalStateException("a test's own text is at fault: " + text);
            }
        }
        return house;
    }

    /** A house where every secret comes to every door: 256 leaks, by 32 grants that are needed. */
    static RightsHouse everyLeak() {
        return house(0, "ask 1 with b to b;ask 2 with b to b;ask 3 with b to c;ask 4 with b to c",
            255, eight("get # to b;", 0) + "result b", 65280, eight("get # to b;", 8) + "result b",
            255, eight("put a by #;", 0) + "result a", 65280, eight("put a by #;", 8) + "result a");
    }

    private static String eight(String line, int first) {
        StringBuilder text = new StringBuilder();
        for (int right = first; right < first + 8; right++) {
            text.append(line.replace("#", String.valueOf(right)));
        }
        return text.toString();
    }

    /** All that a house tells by calls that change nothing, its troubles and the tape's bytes aside. */
    static String state(RightsHouse x) {
        StringBuilder text = new StringBuilder("counts");
        for (int what = 0; what < 5; what++) {
            text.append(' ').append(x.count(what));
        }
        text.append(" fault ").append(x.fault());
        for (int part = 0; part < x.count(0); part++) {
            text.append("; part ").append(part);
            for (int k = 0; x.line(part, k, 0) >= 0; k++) {
                text.append(" (").append(x.line(part, k, 0)).append(' ').append(x.line(part, k, 1)).append(' ')
                    .append(x.line(part, k, 2)).append(' ').append(x.line(part, k, 3)).append(')');
            }
            text.append(" holds ").append(x.holds(part, 0)).append(' ').append(x.holds(part, 1)).append(' ')
                .append(x.holds(part, 2)).append(" result ").append(x.result(part)).append(" asked ").append(x.asked(part))
                .append(" rights ").append(x.needed(part)).append(' ').append(x.idle(part)).append(' ')
                .append(x.lacking(part)).append(' ').append(x.helped(part));
        }
        text.append("; misuse ").append(x.misuse(false)).append(" service ").append(x.misuse(true));
        for (int i = 0; x.wrong(i) >= 0; i++) {
            text.append(' ').append(x.wrong(i));
        }
        text.append("; steps");
        for (int i = 0; step(x, i) >= 0; i++) {
            text.append(' ').append(step(x, i));
        }
        text.append("; cured");
        for (int i = 0; x.cured(i) >= 0; i++) {
            text.append(' ').append(x.cured(i));
        }
        return text.toString();
    }

    static int bits(int... numbers) {
        int bits = 0;
        for (int number : numbers) {
            bits |= 1 << number;
        }
        return bits;
    }

    /** Puts bytes on the tape, with blanks behind up to the next 20. */
    static void feed(RightsHouse house, String text) {
        byte[] bytes = text.getBytes(StandardCharsets.ISO_8859_1);
        byte[] padded = Arrays.copyOf(bytes, (bytes.length + 19) / 20 * 20);
        Arrays.fill(padded, bytes.length, padded.length, (byte) ' ');
        for (int i = 0; i < padded.length; i += 20) {
            house.feed(four(padded, i), four(padded, i + 4), four(padded, i + 8), four(padded, i + 12),
                four(padded, i + 16));
        }
    }

    void end() {
        about("");
        System.out.println(made + " answers looked at, " + wrong + " wrong");
        if (wrong != 0 || made == 0) {
            System.exit(1);
        }
    }

    private static int four(byte[] bytes, int i) {
        return (bytes[i] & 255) << 24 | (bytes[i + 1] & 255) << 16 | (bytes[i + 2] & 255) << 8 | bytes[i + 3] & 255;
    }
}
