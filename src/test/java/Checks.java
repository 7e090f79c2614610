import java.nio.charset.StandardCharsets;
import java.util.Arrays;
import java.util.NoSuchElementException;

/** What the tests share: feeding texts, telling wrong answers, ending with 1 if there was one. */
final class Checks {
    private int wrong;
    private int made;

    void due(String call, long got, long want) {
        made++;
        if (got != want) {
            wrong++;
            System.out.println(call + " answered " + got + ", due is " + want);
        }
    }

    void due(String call, boolean got, boolean want) {
        due(call, got ? 1 : 0, want ? 1 : 0);
    }

    /** The answer of step(i), or Integer.MIN_VALUE if it throws. */
    static int step(RightsHouse house, int i) {
        try {
            return house.step(i);
        } catch (NoSuchElementException e) {
            return Integer.MIN_VALUE;
        }
    }

    void noStep(String call, RightsHouse house, int i) {
        due(call, step(house, i), Integer.MIN_VALUE);
    }

    /** Each step of the latest way, and that there is none behind. */
    void steps(String call, RightsHouse house, int... want) {
        for (int i = 0; i < want.length; i++) {
            due(call + ", step(" + i + ")", step(house, i), want[i]);
        }
        noStep(call + ", step behind the last", house, want.length);
    }

    /** Puts bytes on the tape, with blanks behind, and reads them all as a part's lines. */
    static int lines(RightsHouse house, int part, byte[] text) {
        byte[] padded = Arrays.copyOf(text, (text.length + 19) / 20 * 20);
        Arrays.fill(padded, text.length, padded.length, (byte) ' ');
        for (int i = 0; i < padded.length; i += 20) {
            house.feed(four(padded, i), four(padded, i + 4), four(padded, i + 8), four(padded, i + 12),
                four(padded, i + 16));
        }
        return house.lines(part, text.length);
    }

    static int lines(RightsHouse house, int part, String text) {
        return lines(house, part, text.getBytes(StandardCharsets.ISO_8859_1));
    }

    /** A house whose parts have these grants and texts: grants, text, grants, text .. */
    static RightsHouse house(Object... rows) {
        RightsHouse house = new RightsHouse();
        for (int i = 0; i < rows.length; i += 2) {
            house.part((Integer) rows[i]);
        }
        for (int i = 1; i < rows.length; i += 2) {
            String text = (String) rows[i];
            if (!text.isEmpty() && lines(house, i / 2, text) < 0) {
                throw new IllegalStateException("a test's own text is at fault: " + text);
            }
        }
        return house;
    }

    static int bits(int... numbers) {
        int bits = 0;
        for (int number : numbers) {
            bits |= 1 << number;
        }
        return bits;
    }

    void end() {
        System.out.println(made + " answers looked at, " + wrong + " wrong");
        if (wrong != 0 || made == 0) {
            System.exit(1);
        }
    }

    private static int four(byte[] bytes, int i) {
        return (bytes[i] & 255) << 24 | (bytes[i + 1] & 255) << 16 | (bytes[i + 2] & 255) << 8 | bytes[i + 3] & 255;
    }
}
