import java.util.NoSuchElementException;

/** Counts the answers that are not as due, and ends a test with 1 if there was one. */
final class Checks {
    interface Call {
        long answer();
    }

    private final String test;
    private int asked = 0;
    private int wrong = 0;

    Checks(String test) {
        this.test = test;
    }

    void due(String what, long got, long want) {
        asked++;
        if (got != want) {
            wrong++;
            System.out.println(test + ": " + what + " answered " + got + ", due is " + want);
        }
    }

    void due(String what, boolean got, boolean want) {
        due(what, got ? 1 : 0, want ? 1 : 0);
    }

    void noSuch(String what, Call call) {
        thrown(what, call, NoSuchElementException.class);
    }

    void refused(String what, Call call) {
        thrown(what, call, IllegalArgumentException.class);
    }

    private void thrown(String what, Call call, Class<?> due) {
        asked++;
        String got;
        try {
            got = "the answer " + call.answer();
        } catch (RuntimeException e) {
            if (e.getClass() == due) {
                return;
            }
            got = e.getClass().getSimpleName();
        }
        wrong++;
        System.out.println(test + ": " + what + " gave " + got + ", due is " + due.getSimpleName());
    }

    void end() {
        System.out.println(test + ": " + asked + " answers asked for, " + wrong + " not as due");
        if (wrong != 0 || asked == 0) {
            System.exit(1);
        }
    }

    /** What an object tells of itself in some twenty calls: all counts, the fault's place and what is kept. */
    static String state(TownTwins twins) {
        StringBuilder text = new StringBuilder();
        for (int what = 0; what <= 8; what++) {
            text.append(twins.count(what)).append(' ');
        }
        text.append("fault ").append(twins.fault());
        text.append(" lodged ").append(orThrown(() -> twins.lodged(-1))).append(orThrown(() -> twins.lodged(0)));
        text.append(" planned ").append(orThrown(() -> twins.planned(-1))).append(orThrown(() -> twins.planned(0)));
        for (int town = 0; town < Math.min(4, twins.count(1)); town++) {
            text.append(" friend ").append(twins.friend(town));
        }
        return text.toString();
    }

    private static String orThrown(Call call) {
        try {
            return call.answer() + " ";
        } catch (NoSuchElementException e) {
            return "none ";
        }
    }

    /** A call that is refused, or only asks, leaves everything as it was. */
    void unchanged(String what, TownTwins twins, String before) {
        String now = state(twins);
        asked++;
        if (!now.equals(before)) {
            wrong++;
            System.out.println(test + ": " + what + " left '" + now + "', due is '" + before + "'");
        }
    }

    /** Puts a text on the tape, with blanks behind it up to the next twenty. */
    static void feed(TownTwins twins, String text) {
        for (int at = 0; at < text.length(); at += 20) {
            int[] row = new int[5];
            for (int i = 0; i < 20; i++) {
                int sign = at + i < text.length() ? text.charAt(at + i) : ' ';
                row[i / 4] = row[i / 4] << 8 | sign;
            }
            twins.feed(row[0], row[1], row[2], row[3], row[4]);
        }
    }

    static int tell(TownTwins twins, String text) {
        feed(twins, text);
        return twins.rules(text.length());
    }

    /** A text told to a new object: the fault that is due, and its place. */
    void fault(String text, int fault, int place) {
        TownTwins twins = new TownTwins();
        due("rules of '" + text + "'", tell(twins, text), fault);
        due("fault() of '" + text + "'", twins.fault(), place);
        due("count(7) after '" + text + "'", twins.count(7), fault == 0 ? 1 : 0);
    }
}
