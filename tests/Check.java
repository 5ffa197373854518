/** What all tests need: calls compared with what is due, and texts fed as bytes. Not a test itself. */
final class Check {
    interface Call {
        long answer();
    }

    interface CallOf {
        long answer(int argument);
    }

    static final Class<?> ARGUMENT = IllegalArgumentException.class;
    static final Class<?> INDEX = IndexOutOfBoundsException.class;
    static final Class<?> STATE = IllegalStateException.class;

    private static int wrong;
    private static String sentence = "";

    private Check() {
    }

    /** A test of its own for one sentence of the document: what is wrong in it is told with its words. */
    static void sentence(String words, Runnable test) {
        sentence = "[" + words + "] ";
        try {
            test.run();
        } catch (RuntimeException e) {
            tellWrong("ended with " + e);
        }
        sentence = "";
    }

    private static void tellWrong(String what) {
        wrong++;
        System.out.println(sentence + what);
    }

    static void due(String call, long got, long want) {
        if (got != want) {
            tellWrong(call + " answered " + got + ", due is " + want);
        }
    }

    static void due(String call, boolean got, boolean want) {
        due(call, got ? 1 : 0, want ? 1 : 0);
    }

    static void dueThrows(String call, Class<?> want, Call made) {
        long got;
        try {
            got = made.answer();
        } catch (RuntimeException e) {
            if (e.getClass() != want || !isThrownByCode(e)) {
                tellWrong(call + " threw " + e + ", due is " + want);
            }
            return;
        }
        tellWrong(call + " answered " + got + ", due is " + want);
    }

    /** Whether the class itself threw it, not the machine or the library in it. */
    static boolean isThrownByCode(Throwable thrown) {
        StackTraceElement[] trace = thrown.getStackTrace();
        return trace.length > 0 && trace[0].getClassName().startsWith("PartyWalls")
                && !(thrown instanceof ArrayIndexOutOfBoundsException);
    }

    /** What is below the least and above the most is refused as an argument; the two are taken. */
    static void dueRange(String name, int least, int most, CallOf call) {
        dueBounds(name, ARGUMENT, least, most, call);
    }

    /** Numbers from 0 to below the count are such; others are none. */
    static void dueNumbers(String name, int count, CallOf call) {
        dueBounds(name, INDEX, 0, count - 1, call);
    }

    private static void dueBounds(String name, Class<?> refusal, int least, int most, CallOf call) {
        int[] refused = {least - 1, Integer.MIN_VALUE, most + 1, Integer.MAX_VALUE};
        for (int argument : refused) {
            dueThrows(name + " " + argument, refusal, () -> call.answer(argument));
        }
        if (least <= most) {
            dueTaken(name + " " + least, () -> call.answer(least));
            dueTaken(name + " " + most, () -> call.answer(most));
        }
    }

    private static void dueTaken(String call, Call made) {
        try {
            made.answer();
        } catch (RuntimeException e) {
            tellWrong(call + " threw " + e + ", due is an answer");
        }
    }

    /** Feeds a text, blanks behind it up to full feeds, and reads it as the RULE. */
    static int rule(PartyWalls x, String text) {
        feed(x, text);
        return x.rule(text.length());
    }

    static void feed(PartyWalls x, String text) {
        for (int i = 0; i < text.length(); i += 20) {
            x.feed(four(text, i), four(text, i + 4), four(text, i + 8), four(text, i + 12), four(text, i + 16));
        }
    }

    private static int four(String text, int from) {
        int number = 0;
        for (int i = from; i < from + 4; i++) {
            number = number << 8 | (i < text.length() ? text.charAt(i) : ' ');
        }
        return number;
    }

    static void dueRule(PartyWalls x, String text, int want, int place) {
        due("rule of '" + text + "'", rule(x, text), want);
        due("fault of '" + text + "'", x.fault(), place);
    }

    /** An object with some owners, of which 0 and 1 have WALL 0, and a RULE. */
    static PartyWalls withWall(int owners, String text) {
        PartyWalls x = new PartyWalls();
        for (int i = 0; i < owners; i++) {
            x.owner();
        }
        x.wall(0, 1);
        if (rule(x, text) < 0) {
            due("fault of '" + text + "'", x.fault(), -1);
        }
        return x;
    }

    static void end() {
        System.out.println(wrong == 0 ? "as due" : wrong + " not as due");
        if (wrong != 0) {
            System.exit(1);
        }
    }
}
