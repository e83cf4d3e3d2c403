/** What the tests share: checks that are counted, and texts told letter by letter. */
final class Due {
    private static int checks = 0;
    private static int wrong = 0;

    private Due() {
    }

    static void is(String call, long got, long want) {
        checks++;
        if (got != want) {
            wrong++;
            System.out.println(call + " answered " + got + ", due is " + want);
        }
    }

    static void holds(String what, boolean is) {
        checks++;
        if (!is) {
            wrong++;
            System.out.println("does not hold: " + what);
        }
    }

    /** Gives all letters of the text to x; answers what evening() does. */
    static int tell(EightMinutes x, String text) {
        for (int i = 0; i < text.length(); i++) {
            x.letter(text.charAt(i));
        }
        return x.evening();
    }

    /** A new object to which all texts have been told, each an evening without fault. */
    static EightMinutes told(String... texts) {
        EightMinutes x = new EightMinutes();
        for (String text : texts) {
            holds("no fault in " + text, tell(x, text) > 0);
        }
        return x;
    }

    static void end() {
        System.out.println(checks + " checks, " + wrong + " wrong");
        if (wrong != 0) {
            System.exit(1);
        }
    }
}
