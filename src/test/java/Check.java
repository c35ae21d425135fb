import java.nio.charset.StandardCharsets;
import java.util.Arrays;

/** What the project's tests share: answers that are due, and texts fed as terms. */
final class Check {
    private static int asked = 0;
    private static int wrong = 0;

    private Check() {
    }

    static void due(String call, long got, long want) {
        asked++;
        if (got != want) {
            wrong++;
            System.out.println(call + " answered " + got + ", due is " + want);
        }
    }

    static void due(String call, boolean got, boolean want) {
        due(call, got ? 1 : 0, want ? 1 : 0);
    }

    /** Feeds the bytes, filled up with blanks to whole twenties; the last answer of feed. */
    static int feed(AwardLine x, byte[] text) {
        byte[] whole = Arrays.copyOf(text, Math.max(1, (text.length + 19) / 20) * 20);
        Arrays.fill(whole, text.length, whole.length, (byte) ' ');
        int answer = 0;
        for (int at = 0; at < whole.length; at += 20) {
            answer = x.feed(four(whole, at), four(whole, at + 4), four(whole, at + 8),
                    four(whole, at + 12), four(whole, at + 16));
        }
        return answer;
    }

    private static int four(byte[] b, int at) {
        return (b[at] & 255) << 24 | (b[at + 1] & 255) << 16 | (b[at + 2] & 255) << 8 | b[at + 3] & 255;
    }

    static int terms(AwardLine x, String text) {
        byte[] bytes = text.getBytes(StandardCharsets.ISO_8859_1);
        feed(x, bytes);
        return x.terms(bytes.length);
    }

    /** The text is taken, with so many lines and knots. */
    static void reads(String text, int lines, int knots) {
        AwardLine x = new AwardLine();
        due("terms of " + text, terms(x, text), lines);
        due("fault(0) of " + text, x.fault(0), 0);
        due("fault(1) of " + text, x.fault(1), -1);
        due("knots of " + text, x.counted(6), knots);
    }

    /** The text has this fault at this place. */
    static void faulty(String text, int fault, int place) {
        AwardLine x = new AwardLine();
        due("terms of " + text, terms(x, text), -1);
        due("fault(0) of " + text, x.fault(0), fault);
        due("fault(1) of " + text, x.fault(1), place);
    }

    static int looked(AwardLine x, int draft, int what) {
        try {
            return x.look(draft, what);
        } catch (IndexOutOfBoundsException e) {
            return -101;
        } catch (java.util.NoSuchElementException e) {
            return -102;
        }
    }

    static void end() {
        System.out.println(asked + " answers, " + wrong + " not as due");
        if (wrong != 0 || asked == 0) {
            System.exit(1);
        }
    }
}
