/** What the tests share: a house to ask, programs as texts, and the count of wrong answers. */
final class Due {
    private static int wrong = 0;

    private Due() {
    }

    static void is(String call, int got, int want) {
        if (got == want) return;
        wrong++;
        System.out.println(call + " answered " + got + ", due is " + want);
    }

    /** The text comes to the tape, with blanks behind it up to a multiple of twenty bytes. */
    static void tape(RobotCellHouse x, String text) {
        for (int i = 0; i < text.length(); i += 20) {
            x.feed(four(text, i), four(text, i + 4), four(text, i + 8), four(text, i + 12), four(text, i + 16));
        }
        int blanks = (20 - text.length() % 20) % 20;
        x.cut(blanks);
    }

    private static int four(String text, int at) {
        int bytes = 0;
        for (int i = at; i < at + 4; i++) bytes = bytes << 8 | (i < text.length() ? text.charAt(i) & 255 : 32);
        return bytes;
    }

    static int program(RobotCellHouse x, int arm, String text) {
        tape(x, text);
        return x.program(arm);
    }

    /** All events as one line: tick:kind(a,b) each. */
    static String events(RobotCellHouse x) {
        StringBuilder line = new StringBuilder();
        for (int i = 0; i < x.events() && x.event(i, 1) != RobotCellHouse.BAD; i++) {
            if (i > 0) line.append(' ');
            line.append(x.event(i, 0)).append(':').append(x.event(i, 1));
            line.append('(').append(x.event(i, 2)).append(',').append(x.event(i, 3)).append(')');
        }
        return line.toString();
    }

    static void eventsAre(String run, RobotCellHouse x, String want) {
        String got = events(x);
        if (got.equals(want)) return;
        wrong++;
        System.out.println(run + ": the events are " + got + ", due are " + want);
    }

    static void end() {
        System.out.println(wrong == 0 ? "all answers are as due" : wrong + " answers are not as due");
        if (wrong != 0) System.exit(1);
    }
}
