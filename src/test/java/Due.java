/** What the tests share: checks that are counted, and texts told letter by letter. */
final class Due {
    private static int checks = 0;
    private static int wrong = 0;
    private static int edges = 0;
    private static String where = "";

    private Due() {
    }

    static void is(String call, long got, long want) {
        checks++;
        if (got != want) {
            wrong++;
            System.out.println(where + call + " answered " + got + ", due is " + want);
        }
    }

    static void holds(String what, boolean is) {
        checks++;
        if (!is) {
            wrong++;
            System.out.println(where + "does not hold: " + what);
        }
    }

    /** The test of one sentence that names a boundary case: what is wrong in it is told with the sentence. */
    static void edge(String sentence, Runnable test) {
        edges++;
        int checksAhead = checks;
        where = "\"" + sentence + "\": ";
        test.run();
        holds("something is looked at", checks > checksAhead);
        where = "";
    }

    /** Gives all letters of the text to x; answers what evening() does. */
    static int tell(EightMinutes x, String text) {
        write(x, text);
        return x.evening();
    }

    /** Gives all letters of the text to x, but no evening is made of them. */
    static void write(EightMinutes x, String text) {
        for (int i = 0; i < text.length(); i++) {
            x.letter(text.charAt(i));
        }
    }

    /** The ROW becomes these numbers. */
    static void row(EightMinutes x, int... numbers) {
        x.clear();
        for (int number : numbers) {
            x.row(number);
        }
    }

    /** How many of REFUSALS -1, -2, -3, -4, -5, -6 there were. */
    static void refusals(EightMinutes x, int... due) {
        for (int i = 0; i < due.length; i++) {
            is("REFUSALS " + (-1 - i), x.count(11 + i), due[i]);
        }
    }

    /** All that can be seen of x without a refusal (by some 150 calls at most) in one text. */
    static String look(EightMinutes x) {
        StringBuilder seen = new StringBuilder();
        for (int what = 0; what <= 8; what++) {
            seen.append(x.count(what)).append(' ');
        }
        for (int one = 0; one < 10; one++) {
            if (one % 5 >= x.count(one / 5)) {
                continue;
            }
            seen.append('(').append(x.person(one, 0)).append(' ').append(x.person(one, 1)).append(':');
            int others = x.count(1 - one / 5);
            for (int i = 0; i < others; i++) {
                seen.append(' ').append(x.liking(one, one < 5 ? 5 + i : i));
            }
            seen.append(')');
        }
        return seen.toString();
    }

    /** A new object to which all texts have been told, each an evening without fault. */
    static EightMinutes told(String... texts) {
        EightMinutes x = new EightMinutes();
        for (String text : texts) {
            holds("no fault in " + text, tell(x, text) > 0);
        }
        // Of an evening with a fault nothing comes, so nothing that is asked later may tell of this one.
        holds("a fault behind " + String.join("", texts), tell(x, "o43;w1;lw9;re8;w4;") < 0);
        return x;
    }

    static void end() {
        String ofEdges = edges == 0 ? "" : " in " + edges + " edges";
        System.out.println(checks + " checks" + ofEdges + ", " + wrong + " wrong");
        if (wrong != 0) {
            System.exit(1);
        }
    }
}
