/** A test of its own for each boundary case that the document names: people, letters, evenings, likings, order, law. */
public final class TellingEdgeTests {
    private static final String FIVE_LEFT = "lm0;lm1;lm2;lm3;lm4;";
    private static final String FIVE_RIGHT = "rm5;rm6;rm7;rm8;rm9;";
    private static final int LEAST = Integer.MIN_VALUE;
    private static final int GREATEST = Integer.MAX_VALUE;

    public static void main(String[] args) {
        people();
        likings();
        letters();
        badLetters();
        placesOfBadLetters();
        badStatements();
        outOfRange();
        eveningsComeOrNot();
        persons();
        liking();
        like();
        order();
        law();
        Due.end();
    }

    private static void people() {
        Due.edge("Nobody on either SIDE", () -> {
            EightMinutes x = new EightMinutes();
            Due.is("count(0)", x.count(0), 0);
            Due.is("count(1)", x.count(1), 0);
            for (int one = 0; one < 10; one++) {
                Due.is("person(" + one + ", 0)", x.person(one, 0), -1);
            }
        });
        Due.edge("STEP (1 .. 4: 1 at first)", () -> Due.is("count(3)", new EightMinutes().count(3), 1));
        Due.edge("SHIFT (0 .. 4: 0 at first)", () -> Due.is("count(4)", new EightMinutes().count(4), 0));
        Due.edge("LAW (0 .. 3: 0 at first)", () -> Due.is("count(5)", new EightMinutes().count(5), 0));
        Due.edge("An object is used for at most 512 calls", () -> {
            EightMinutes x = new EightMinutes();
            for (int call = 1; call < 512; call++) {
                x.letter(-1);
            }
            Due.is("the 512th call", x.count(14), 511);
        });
        Due.edge("PEOPLE 0 .. 4 each as they come", () -> {
            EightMinutes x = Due.told("lm1;rm2;le3;re4;lt5;");
            Due.is("BAR of 0", x.person(0, 1), 1);
            Due.is("BAR of 1", x.person(1, 1), 3);
            Due.is("BAR of 2", x.person(2, 1), 5);
            Due.is("BAR of 5", x.person(5, 1), 2);
            Due.is("BAR of 6", x.person(6, 1), 4);
        });
        Due.edge("(5 at most on each): 5 come", () -> {
            EightMinutes x = Due.told(FIVE_LEFT, FIVE_RIGHT);
            Due.is("LEFT", x.count(0), 5);
            Due.is("RIGHT", x.count(1), 5);
        });
        Due.edge("(5 at most on each): a sixth LEFT one does not", () -> {
            EightMinutes x = Due.told(FIVE_LEFT);
            Due.is("a sixth", Due.tell(x, "lm0;"), -2000);
            Due.is("LEFT", x.count(0), 5);
            Due.is("a RIGHT one does", Due.tell(x, "rm0;"), 1);
        });
        Due.edge("(5 at most on each): a sixth RIGHT one does not", () -> {
            EightMinutes x = Due.told(FIVE_RIGHT);
            Due.is("a sixth", Due.tell(x, "rm0;"), -2000);
            Due.is("RIGHT", x.count(1), 5);
            Due.is("a LEFT one does", Due.tell(x, "lm0;"), 1);
        });
        Due.edge("BAR (0 .. 9)", () -> {
            EightMinutes x = Due.told("lm0;lm9;rm0;rm9;");
            Due.is("BAR of 0", x.person(0, 1), 0);
            Due.is("BAR of 1", x.person(1, 1), 9);
            Due.is("BAR of 5", x.person(5, 1), 0);
            Due.is("BAR of 6", x.person(6, 1), 9);
        });
        Due.edge("PEOPLE are told as numbers: 0 .. 4 LEFT, 5 .. 9 RIGHT", () -> {
            EightMinutes x = Due.told(FIVE_LEFT, FIVE_RIGHT);
            for (int one = 0; one < 10; one++) {
                Due.is("BAR of " + one, x.person(one, 1), one);
            }
            Due.is("below them", x.person(-1, 1), -1);
            Due.is("above them", x.person(10, 1), -1);
        });
    }

    private static void likings() {
        Due.edge("LIKING 5 at first, from who comes new", () -> {
            EightMinutes x = Due.told("rm0;rm0;lm0;k059;k060;lm0;");
            Due.is("liking(1, 5)", x.liking(1, 5), 5);
            Due.is("liking(1, 6)", x.liking(1, 6), 5);
            Due.is("liking(0, 5) stays", x.liking(0, 5), 9);
            Due.is("liking(0, 6) stays", x.liking(0, 6), 0);
        });
        Due.edge("LIKING 5 at first, of who comes new", () -> {
            EightMinutes x = Due.told("rm0;rm0;lm0;k509;k600;lm0;");
            Due.is("liking(5, 1)", x.liking(5, 1), 5);
            Due.is("liking(6, 1)", x.liking(6, 1), 5);
            Due.is("liking(5, 0) stays", x.liking(5, 0), 9);
            Due.is("liking(6, 0) stays", x.liking(6, 0), 0);
        });
        Due.edge("5 at first, though another one of that number was there before ON", () -> {
            EightMinutes x = Due.told("lm0;rm0;");
            x.image();
            Due.tell(x, "lm0;rm0;k161;k069;k612;k158;k603;k517;");
            x.on();
            Due.tell(x, "rm0;lm0;");
            Due.is("liking(0, 6)", x.liking(0, 6), 5);
            Due.is("liking(6, 0)", x.liking(6, 0), 5);
            Due.is("liking(1, 5)", x.liking(1, 5), 5);
            Due.is("liking(5, 1)", x.liking(5, 1), 5);
            Due.is("liking(1, 6)", x.liking(1, 6), 5);
            Due.is("liking(6, 1)", x.liking(6, 1), 5);
        });
        Due.edge("5 at first, though an EVENING with a FAULT told another LIKING", () -> {
            EightMinutes x = Due.told("lm0;");
            Due.is("a FAULT", Due.tell(x, "rm0;k059;k501;w4;"), -2014);
            Due.tell(x, "rm0;");
            Due.is("liking(0, 5)", x.liking(0, 5), 5);
            Due.is("liking(5, 0)", x.liking(5, 0), 5);
        });
        Due.edge("LIKING of each of the other SIDE (0 .. 9), told in letters", () -> {
            EightMinutes x = Due.told(FIVE_LEFT, FIVE_RIGHT, "k499;k940;k050;k509;");
            Due.is("liking(4, 9)", x.liking(4, 9), 9);
            Due.is("liking(9, 4)", x.liking(9, 4), 0);
            Due.is("liking(0, 5)", x.liking(0, 5), 0);
            Due.is("liking(5, 0)", x.liking(5, 0), 9);
        });
    }

    private static void letters() {
        Due.edge("A letter (0 .. 255) comes", () -> {
            EightMinutes x = new EightMinutes();
            Due.is("letter(0)", x.letter(0), 1);
            Due.is("letter(255)", x.letter(255), 2);
        });
        Due.edge("letter: -4", () -> {
            EightMinutes x = new EightMinutes();
            Due.is("letter(-1)", x.letter(-1), -4);
            Due.is("letter(least)", x.letter(LEAST), -4);
            Due.is("letters", x.count(8), 0);
            Due.refusals(x, 0, 0, 0, 2, 0, 0);
        });
        Due.edge("letter: -6 (255)", () -> {
            EightMinutes x = new EightMinutes();
            Due.is("letter(256)", x.letter(256), -6);
            Due.is("letter(greatest)", x.letter(GREATEST), -6);
            Due.is("letters", x.count(8), 0);
            Due.refusals(x, 0, 0, 0, 0, 0, 2);
        });
        Due.edge("letter: -6 (96, too)", () -> {
            EightMinutes x = new EightMinutes();
            for (int i = 1; i <= 96; i++) {
                Due.is("letter " + i, x.letter('x'), i);
            }
            Due.is("letter 97", x.letter('x'), -6);
            Due.is("letters", x.count(8), 96);
            Due.refusals(x, 0, 0, 0, 0, 0, 1);
        });
        Due.edge("letter: -4 is told ahead of -6", () -> {
            EightMinutes x = new EightMinutes();
            Due.write(x, "x".repeat(96));
            Due.is("a 97th letter below 0", x.letter(-1), -4);
            Due.refusals(x, 0, 0, 0, 1, 0, 0);
        });
        Due.edge("letter: one refused changes nothing", () -> {
            EightMinutes x = new EightMinutes();
            Due.write(x, "w");
            x.letter(-1);
            x.letter(256);
            Due.write(x, "2;");
            Due.is("evening()", x.evening(), 1);
            Due.is("LAW", x.count(5), 2);
        });
        Due.edge("96 letters become an EVENING, a 97th refused is not of it", () -> {
            EightMinutes x = new EightMinutes();
            Due.write(x, "w0;".repeat(31) + "w3;");
            Due.is("letter 97", x.letter('w'), -6);
            Due.is("evening()", x.evening(), 32);
            Due.is("LAW", x.count(5), 3);
        });
        Due.edge("The letters are no more: 96 others can come", () -> {
            EightMinutes x = new EightMinutes();
            Due.write(x, "w1;".repeat(32));
            x.evening();
            Due.is("letters", x.count(8), 0);
            Due.is("32 more", Due.tell(x, "w2;".repeat(32)), 32);
        });
        Due.edge("(with a FAULT neither)", () -> {
            EightMinutes x = new EightMinutes();
            Due.is("kind 1", Due.tell(x, "w"), -1001);
            Due.is("letters", x.count(8), 0);
            Due.is("kind 2", Due.tell(x, "w9;"), -2000);
            Due.is("letters", x.count(8), 0);
            Due.is("another comes", Due.tell(x, "w3;"), 1);
        });
    }

    /** The text with each of the 256 letters at a place and a rest behind: all but those that fit are a FAULT there. */
    private static void onlyTheseFit(String ahead, String fitting, String behind) {
        for (int c = 0; c < 256; c++) {
            EightMinutes x = new EightMinutes();
            Due.write(x, ahead);
            x.letter(c);
            Due.write(x, behind);
            int got = x.evening();
            boolean isFault = got == -1000 - ahead.length();
            Due.is("letter " + c + " behind '" + ahead + "': FAULT there", isFault ? 1 : 0, fitting.indexOf(c) < 0 ? 1 : 0);
        }
    }

    private static void badLetters() {
        Due.edge("STATEMENTS: \"l\", \"r\", \"k\", \"o\", \"w\"", () -> onlyTheseFit("w0;", "lrkow", ""));
        Due.edge("\"l\" a letter of a KIND", () -> onlyTheseFit("l", "metshw", "0;"));
        Due.edge("\"r\" a letter of a KIND", () -> onlyTheseFit("r", "metshw", "0;"));
        Due.edge("\"l\": BAR (a digit)", () -> onlyTheseFit("lm", "0123456789", ";"));
        Due.edge("\"r\": BAR (a digit)", () -> onlyTheseFit("rm", "0123456789", ";"));
        Due.edge("\"k\" one (a digit)", () -> onlyTheseFit("k", "0123456789", "50;"));
        Due.edge("\"k\": another (a digit)", () -> onlyTheseFit("k0", "0123456789", "0;"));
        Due.edge("\"k\": LIKING (a digit)", () -> onlyTheseFit("k05", "0123456789", ";"));
        Due.edge("\"o\" STEP (a digit)", () -> onlyTheseFit("o", "0123456789", "0;"));
        Due.edge("\"o\": SHIFT (a digit)", () -> onlyTheseFit("o1", "0123456789", ";"));
        Due.edge("\"w\" LAW (a digit)", () -> onlyTheseFit("w", "0123456789", ";"));
        Due.edge("\"l\" with \";\" behind", () -> onlyTheseFit("lm0", ";", ""));
        Due.edge("\"r\" with \";\" behind", () -> onlyTheseFit("rm0", ";", ""));
        Due.edge("\"k\" with \";\" behind", () -> onlyTheseFit("k050", ";", ""));
        Due.edge("\"o\" with \";\" behind", () -> onlyTheseFit("o10", ";", ""));
        Due.edge("\"w\" with \";\" behind", () -> onlyTheseFit("w0", ";", ""));
    }

    private static void placesOfBadLetters() {
        Due.edge("At least one STATEMENT", () -> {
            EightMinutes x = new EightMinutes();
            Due.is("no letters", x.evening(), -1000);
            Due.is("one STATEMENT", Due.tell(x, "w0;"), 1);
            Due.is("no letters behind one", x.evening(), -1000);
        });
        Due.edge("the place of the first letter with which no EVENING can go on", () -> {
            Due.is("of several", Due.tell(new EightMinutes(), "w0;w1;xx;w1;x"), -1006);
            Due.is("the first of all", Due.tell(new EightMinutes(), "xw0;"), -1000);
            Due.is("a \";\" too many", Due.tell(new EightMinutes(), "w0;;"), -1003);
            Due.is("a blank between", Due.tell(new EightMinutes(), "w0; w0;"), -1003);
        });
        Due.edge("the last of 96 letters is one with which no EVENING can go on", () ->
            Due.is("evening()", Due.tell(new EightMinutes(), "w0;".repeat(31) + "w0x"), -1095));
        Due.edge("(the end, if something lacks)", () -> {
            String text = "lm0;re5;k059;o21;w2;";
            for (int end = 1; end <= text.length(); end++) {
                boolean isWhole = text.charAt(end - 1) == ';';
                int statements = (int) text.substring(0, end).chars().filter(c -> c == ';').count();
                int due = isWhole ? statements : -1000 - end;
                Due.is("'" + text.substring(0, end) + "'", Due.tell(new EightMinutes(), text.substring(0, end)), due);
            }
        });
        Due.edge("(the end, if something lacks): the end of 95 and of 96 letters", () -> {
            Due.is("95", Due.tell(new EightMinutes(), "w0;".repeat(31) + "w0"), -1095);
            Due.is("96", Due.tell(new EightMinutes(), "w0;".repeat(30) + "lm0;w0"), -1096);
        });
        Due.edge("kind 1 is told ahead of kind 2", () -> {
            Due.is("a letter behind a bad STATEMENT", Due.tell(new EightMinutes(), "w9;w0;x"), -1006);
            Due.is("something lacks behind a bad STATEMENT", Due.tell(new EightMinutes(), "k050;w"), -1006);
            Due.is("a bad STATEMENT without its end", Due.tell(new EightMinutes(), "w9"), -1002);
        });
    }

    private static void badStatements() {
        Due.edge("kind 2: the place of the first letter of the first STATEMENT that is not as it must be", () -> {
            Due.is("the first of all", Due.tell(new EightMinutes(), "w4;w0;"), -2000);
            Due.is("the second", Due.tell(new EightMinutes(), "w0;w4;"), -2003);
            Due.is("of several", Due.tell(new EightMinutes(), "w0;o10;o50;w9;k050;"), -2007);
            Due.is("the last of 96 letters", Due.tell(new EightMinutes(), "w0;".repeat(31) + "w4;"), -2093);
        });
        Due.edge("behind all ahead of it in the text", () -> {
            Due.is("told before they come", Due.tell(new EightMinutes(), "lm0;k059;rm0;"), -2004);
            Due.is("told when they have come", Due.tell(new EightMinutes(), "lm0;rm0;k059;"), 3);
            Due.is("told by an EVENING ahead", Due.tell(Due.told("lm0;rm0;"), "k059;"), 1);
            Due.is("come in both", Due.tell(Due.told("lm0;"), "rm0;k509;"), 2);
        });
        Due.edge("nobody of that number", () -> {
            String two = "lm0;rm0;";
            Due.is("no first LEFT one", Due.tell(Due.told(two), "k150;"), -2000);
            Due.is("no other LEFT one", Due.tell(Due.told(two), "k510;"), -2000);
            Due.is("no first RIGHT one", Due.tell(Due.told(two), "k600;"), -2000);
            Due.is("no other RIGHT one", Due.tell(Due.told(two), "k060;"), -2000);
            Due.is("nobody at all", Due.tell(new EightMinutes(), "k050;"), -2000);
            Due.is("the fifth of 4 LEFT ones", Due.tell(Due.told("lm0;lm0;lm0;lm0;rm0;"), "k450;"), -2000);
            Due.is("the fifth of 4 RIGHT ones", Due.tell(Due.told("rm0;rm0;rm0;rm0;lm0;"), "k090;"), -2000);
        });
        Due.edge("both of one SIDE", () -> {
            String four = "lm0;lm0;rm0;rm0;";
            Due.is("both LEFT", Due.tell(Due.told(four), "k010;"), -2000);
            Due.is("both RIGHT", Due.tell(Due.told(four), "k560;"), -2000);
            Due.is("a LEFT one himself", Due.tell(Due.told(four), "k110;"), -2000);
            Due.is("a RIGHT one himself", Due.tell(Due.told(four), "k550;"), -2000);
            String ten = "k440;";
            Due.is("the last LEFT one himself", Due.tell(Due.told(FIVE_LEFT, FIVE_RIGHT), ten), -2000);
            Due.is("LEFT 4 and RIGHT 0 are not", Due.tell(Due.told(FIVE_LEFT, FIVE_RIGHT), "k459;k549;"), 2);
        });
        Due.edge("no room for more, on the LEFT", () -> {
            Due.is("the sixth in the text", Due.tell(new EightMinutes(), FIVE_LEFT + "lm0;"), -2020);
            Due.is("the sixth of both", Due.tell(Due.told("lm0;lm0;"), "lm0;lm0;lm0;w1;lm0;"), -2015);
            Due.is("the fifth of both", Due.tell(Due.told("lm0;lm0;"), "lm0;lm0;lm0;"), 3);
        });
        Due.edge("no room for more, on the RIGHT", () -> {
            Due.is("the sixth in the text", Due.tell(new EightMinutes(), FIVE_RIGHT + "rm0;"), -2020);
            Due.is("the sixth of both", Due.tell(Due.told("rm0;rm0;"), "rm0;rm0;rm0;w1;rm0;"), -2015);
            Due.is("the fifth of both", Due.tell(Due.told("rm0;rm0;"), "rm0;rm0;rm0;"), 3);
        });
    }

    /** With each digit at a place: those between the least and the greatest come, the others are a FAULT. */
    private static void onlyThese(String ahead, String behind, int least, int greatest) {
        for (int digit = 0; digit <= 9; digit++) {
            int due = digit < least || digit > greatest ? -2000 : 1;
            Due.is("'" + ahead + digit + behind + "'", Due.tell(new EightMinutes(), ahead + digit + behind), due);
        }
    }

    private static void outOfRange() {
        Due.edge("a number out of range: STEP (1 .. 4)", () -> onlyThese("o", "0;", 1, 4));
        Due.edge("a number out of range: SHIFT (0 .. 4)", () -> onlyThese("o1", ";", 0, 4));
        Due.edge("a number out of range: LAW (0 .. 3)", () -> onlyThese("w", ";", 0, 3));
        Due.edge("no BAR (0 .. 9) that is a digit is out of range", () -> onlyThese("lw", ";", 0, 9));
        Due.edge("no LIKING (0 .. 9) that is a digit is out of range", () -> {
            for (int v = 0; v <= 9; v++) {
                EightMinutes x = Due.told("lm0;rm0;");
                Due.is("k05" + v + ";", Due.tell(x, "k05" + v + ";"), 1);
                Due.is("liking(0, 5)", x.liking(0, 5), v);
            }
        });
    }

    private static void eveningsComeOrNot() {
        Due.edge("Without FAULT all of it comes", () -> {
            EightMinutes x = new EightMinutes();
            Due.is("evening()", Due.tell(x, "lw9;rs0;k059;k500;o44;w3;"), 6);
            Due.is("LEFT", x.count(0), 1);
            Due.is("RIGHT", x.count(1), 1);
            Due.is("KIND of 0", x.person(0, 0), 5);
            Due.is("BAR of 0", x.person(0, 1), 9);
            Due.is("KIND of 5", x.person(5, 0), 3);
            Due.is("BAR of 5", x.person(5, 1), 0);
            Due.is("liking(0, 5)", x.liking(0, 5), 9);
            Due.is("liking(5, 0)", x.liking(5, 0), 0);
            Due.is("STEP and SHIFT", x.order(1, 0), 44);
            Due.is("LAW", x.law(0), 3);
        });
        Due.edge("of several in one EVENING the last stands", () -> {
            EightMinutes x = Due.told("lm0;rm0;k059;k051;k058;w3;w1;o44;o12;");
            Due.is("liking(0, 5)", x.liking(0, 5), 8);
            Due.is("LAW", x.count(5), 1);
            Due.is("STEP and SHIFT", x.order(1, 0), 12);
        });
        Due.edge("with a FAULT of kind 1 nothing comes", () -> {
            EightMinutes x = Due.told("lm0;rm0;k053;o23;w2;");
            String ahead = Due.look(x);
            Due.is("evening()", Due.tell(x, "lw9;rs8;k059;k500;o44;w3;x"), -1025);
            Due.holds("all is as it was: " + ahead, Due.look(x).equals(ahead));
        });
        Due.edge("with a FAULT of kind 2 nothing comes", () -> {
            EightMinutes x = Due.told("lm0;rm0;k053;o23;w2;");
            String ahead = Due.look(x);
            Due.is("evening()", Due.tell(x, "lw9;rs8;k059;k500;o44;w3;w4;"), -2025);
            Due.holds("all is as it was: " + ahead, Due.look(x).equals(ahead));
        });
        Due.edge("the FAULT (nothing is counted)", () -> {
            EightMinutes x = new EightMinutes();
            x.evening();
            Due.tell(x, "x");
            Due.tell(x, "w4;");
            Due.tell(x, "o50;");
            Due.tell(x, "k050;");
            Due.tell(x, FIVE_LEFT + "lm0;");
            Due.refusals(x, 0, 0, 0, 0, 0, 0);
        });
    }

    private static void persons() {
        Due.edge("KIND (0 m, 1 e, 2 t, 3 s, 4 h, 5 w)", () -> {
            String letters = "metshw";
            for (int kind = 0; kind < letters.length(); kind++) {
                EightMinutes x = Due.told("l" + letters.charAt(kind) + "0;r" + letters.charAt(kind) + "0;");
                Due.is("KIND of a LEFT one", x.person(0, 0), kind);
                Due.is("KIND of a RIGHT one", x.person(5, 0), kind);
            }
        });
        Due.edge("person: -1", () -> {
            EightMinutes x = Due.told("lm0;rm0;rm0;");
            int[] nobody = {LEAST, -5, -1, 1, 4, 7, 9, 10, 15, GREATEST};
            for (int one : nobody) {
                Due.is("person(" + one + ", 0)", x.person(one, 0), -1);
            }
            Due.refusals(x, nobody.length, 0, 0, 0, 0, 0);
        });
        Due.edge("person: -2", () -> {
            EightMinutes x = Due.told("lm0;");
            int[] others = {LEAST, -1, 3, GREATEST};
            for (int what : others) {
                Due.is("person(0, " + what + ")", x.person(0, what), -2);
            }
            Due.refusals(x, 0, others.length, 0, 0, 0, 0);
        });
        Due.edge("person: -1 is told ahead of -2", () -> {
            EightMinutes x = new EightMinutes();
            Due.is("person(0, 3)", x.person(0, 3), -1);
            Due.refusals(x, 1, 0, 0, 0, 0, 0);
        });
    }

    private static void liking() {
        Due.edge("liking: -1 no such one", () -> {
            EightMinutes x = Due.told("lm0;rm0;");
            int[] nobody = {LEAST, -5, -1, 6, 9, 10, GREATEST};
            for (int other : nobody) {
                Due.is("liking(0, " + other + ")", x.liking(0, other), -1);
                Due.is("liking(" + other + ", 0)", x.liking(other, 0), -1);
            }
            Due.is("liking(5, 1)", x.liking(5, 1), -1);
            Due.is("liking(1, 5)", x.liking(1, 5), -1);
            Due.refusals(x, 2 * nobody.length + 2, 0, 0, 0, 0, 0);
        });
        Due.edge("liking: -1 both of one SIDE", () -> {
            EightMinutes x = Due.told(FIVE_LEFT, FIVE_RIGHT);
            Due.is("liking(0, 4)", x.liking(0, 4), -1);
            Due.is("liking(9, 5)", x.liking(9, 5), -1);
            Due.is("liking(0, 0)", x.liking(0, 0), -1);
            Due.is("liking(5, 5)", x.liking(5, 5), -1);
            Due.is("liking(4, 5) is of two SIDES", x.liking(4, 5), 5);
            Due.refusals(x, 4, 0, 0, 0, 0, 0);
        });
    }

    private static void like() {
        Due.edge("LIKING becomes v: 0 and 9 too", () -> {
            EightMinutes x = Due.told("lm0;rm0;");
            Due.is("like(0, 5, 0)", x.like(0, 5, 0), 5);
            Due.is("like(0, 5, 9)", x.like(0, 5, 9), 0);
            Due.is("like(5, 0, 9)", x.like(5, 0, 9), 5);
            Due.is("like(5, 0, 0)", x.like(5, 0, 0), 9);
            Due.is("liking(0, 5)", x.liking(0, 5), 9);
            Due.is("liking(5, 0)", x.liking(5, 0), 0);
        });
        Due.edge("like: -1", () -> likeRefused(-1, new int[][] {{0, 6, 1}, {1, 5, 1}, {0, 0, 1}, {5, 5, 1}, {-1, 5, 1},
            {0, 10, 1}, {5, 1, 1}, {LEAST, GREATEST, 1}, {GREATEST, LEAST, 1}}));
        Due.edge("like: -4", () -> likeRefused(-4, new int[][] {{0, 5, -1}, {5, 0, LEAST}}));
        Due.edge("like: -6 9", () -> likeRefused(-6, new int[][] {{0, 5, 10}, {5, 0, GREATEST}}));
        Due.edge("like: -1 is told ahead of -4 and -6", () -> likeRefused(-1, new int[][] {{0, 1, -1}, {0, 6, 10}}));
    }

    private static void likeRefused(int due, int[][] calls) {
        EightMinutes x = Due.told("lm0;rm0;k052;k507;");
        String ahead = Due.look(x);
        for (int[] call : calls) {
            Due.is("like(" + call[0] + ", " + call[1] + ", " + call[2] + ")", x.like(call[0], call[1], call[2]), due);
        }
        Due.is("refused", x.count(10 - due), calls.length);
        Due.holds("nothing changes: " + ahead, Due.look(x).equals(ahead));
    }

    private static void order() {
        Due.edge("order: STEP 1 .. 4, SHIFT 0 .. 4", () -> {
            EightMinutes x = new EightMinutes();
            int was = 10;
            for (int step = 1; step <= 4; step++) {
                for (int shift = 0; shift <= 4; shift++) {
                    Due.is("order(" + step + ", " + shift + ")", x.order(step, shift), was);
                    was = 10 * step + shift;
                }
            }
        });
        Due.edge("order: -4 (STEP below 1)", () -> orderRefused(-4, new int[][] {{0, 0}, {-1, 0}, {LEAST, 4}}));
        Due.edge("order: -4 (SHIFT below 0)", () -> orderRefused(-4, new int[][] {{1, -1}, {4, LEAST}}));
        Due.edge("order: -6 (4 each), STEP", () -> orderRefused(-6, new int[][] {{5, 0}, {GREATEST, 4}}));
        Due.edge("order: -6 (4 each), SHIFT", () -> orderRefused(-6, new int[][] {{1, 5}, {4, GREATEST}}));
        Due.edge("order: -4 is told ahead of -6", () -> orderRefused(-4, new int[][] {{5, -1}, {0, 5}}));
    }

    private static void orderRefused(int due, int[][] calls) {
        EightMinutes x = Due.told("o32;");
        for (int[] call : calls) {
            Due.is("order(" + call[0] + ", " + call[1] + ")", x.order(call[0], call[1]), due);
        }
        Due.is("refused", x.count(10 - due), calls.length);
        Due.is("nothing changes", x.order(1, 0), 32);
    }

    private static void law() {
        Due.edge("law: 0 .. 3", () -> {
            EightMinutes x = Due.told("w3;");
            int was = 3;
            for (int law = 0; law <= 3; law++) {
                Due.is("law(" + law + ")", x.law(law), was);
                was = law;
            }
        });
        Due.edge("law: -2", () -> {
            EightMinutes x = Due.told("w2;");
            int[] others = {LEAST, -1, 4, GREATEST};
            for (int law : others) {
                Due.is("law(" + law + ")", x.law(law), -2);
            }
            Due.is("nothing changes", x.count(5), 2);
            Due.refusals(x, 0, others.length, 0, 0, 0, 0);
        });
    }
}
