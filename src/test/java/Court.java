import java.nio.charset.StandardCharsets;

/** What the tests share: texts brought to the tape, and answers held against those that are due. */
final class Court {
    private static int answers = 0;
    private static int wrong = 0;
    private static String about = "";

    private Court() {
    }

    /** Puts a text on the tape, filled up to twenties with 0s. */
    static void feed(AskingCourt court, String text) {
        byte[] bytes = text.getBytes(StandardCharsets.ISO_8859_1);
        for (int i = 0; i < bytes.length; i += 20) {
            int[] fives = new int[5];
            for (int j = 0; j < 20; j++) {
                int one = i + j < bytes.length ? bytes[i + j] & 255 : 0;
                fives[j / 4] = fives[j / 4] << 8 | one;
            }
            court.feed(fives[0], fives[1], fives[2], fives[3], fives[4]);
        }
    }

    static int court(AskingCourt court, String text) {
        feed(court, text);
        return court.court(text.length());
    }

    static int plan(AskingCourt court, String text) {
        feed(court, text);
        return court.plan(text.length());
    }

    static AskingCourt of(String text) {
        AskingCourt court = new AskingCourt();
        if (court(court, text) < 0) {
            due("the case is taken: " + text, court.fault(1), AskingCourt.NONE);
        }
        return court;
    }

    /** Which sentence the answers from here on are for. */
    static void about(String sentence) {
        about = sentence;
    }

    static void due(String call, long got, long want) {
        answers++;
        if (got != want) {
            wrong++;
            System.out.println(about + call + " answered " + got + ", due is " + want);
        }
    }

    static void due(String call, String got, String want) {
        due(call + ": " + got + " and " + want, got.equals(want), true);
    }

    static void due(String call, boolean got, boolean want) {
        due(call, got ? 1 : 0, want ? 1 : 0);
    }

    /** The text is a case with so many possible worlds. */
    static void good(String text, int possible) {
        AskingCourt court = new AskingCourt();
        given(court, text, court(court, text), possible);
        due(text + ": fault(0)", court.fault(0), 0);
        due(text + ": fault(1)", court.fault(1), AskingCourt.NONE);
    }

    /** The text of a case has this fault behind its first part. */
    static void fault(int kind, String ahead, String at) {
        AskingCourt court = new AskingCourt();
        refused(court, ahead + at, court(court, ahead + at), 9);
        due(ahead + at + ": fault(0)", court.fault(0), kind);
        due(ahead + at + ": fault(1)", court.fault(1), ahead.length());
    }

    /** A call that gives NONE and has this status. */
    static void refused(AskingCourt court, String call, long got, int status) {
        due(call, got, AskingCourt.NONE);
        due(call + ", then status()", court.status(), status);
    }

    static void refused(AskingCourt court, String call, boolean got, int status) {
        due(call, got, false);
        due(call + ", then status()", court.status(), status);
    }

    /** A call with status 0 and this answer. */
    static void given(AskingCourt court, String call, long got, long want) {
        due(call, got, want);
        due(call + ", then status()", court.status(), 0);
    }

    static void given(AskingCourt court, String call, boolean got) {
        due(call, got, true);
        due(call + ", then status()", court.status(), 0);
    }

    static void end(String test) {
        System.out.println(test + ": " + answers + " answers, " + wrong + " not as due");
        if (wrong != 0) {
            System.exit(1);
        }
    }
}
