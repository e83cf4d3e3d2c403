/** A test of its own for each boundary case that the document names: rounds, what is felt and said, pairs, orders. */
public final class MeetingEdgeTests {
    private static final String FIVE_LEFT = "lm0;lm0;lm0;lm0;lm0;";
    private static final String FIVE_RIGHT = "rm0;rm0;rm0;rm0;rm0;";
    private static final int LEAST = Integer.MIN_VALUE;
    private static final int GREATEST = Integer.MAX_VALUE;

    public static void main(String[] args) {
        howManyRounds();
        whoMeets();
        alone();
        meetsRefused();
        feltByKinds();
        shadedOnes();
        wornOnes();
        feltLeastAndRefused();
        saysYes();
        yeses();
        both();
        three();
        one();
        byRanks();
        pairsAndGladRefused();
        gaps();
        shadedRounds();
        bestOrder();
        Due.end();
    }

    private static void meets(EightMinutes x, int one, int... due) {
        for (int round = 0; round < due.length; round++) {
            Due.is("meets(" + one + ", " + round + ")", x.meets(one, round), due[round]);
        }
    }

    private static void felt(EightMinutes x, int one, int... due) {
        for (int round = 0; round < due.length; round++) {
            Due.is("felt(" + one + ", " + round + ")", x.felt(one, round), due[round]);
        }
    }

    private static void howManyRounds() {
        Due.edge("ROUNDS: as many as the greater SIDE has PEOPLE", () -> {
            String[] lefts = {"", "lm0;", "lm0;lm0;", "lm0;lm0;lm0;", "lm0;lm0;lm0;lm0;", FIVE_LEFT};
            String[] rights = {"", "rm0;", "rm0;rm0;", "rm0;rm0;rm0;", "rm0;rm0;rm0;rm0;", FIVE_RIGHT};
            for (int left = 0; left <= 5; left++) {
                for (int right = 0; right <= 5; right++) {
                    EightMinutes x = new EightMinutes();
                    Due.tell(x, lefts[left] + rights[right]);
                    Due.is("ROUNDS of " + left + " and " + right, x.count(2), left > right ? left : right);
                }
            }
        });
        Due.edge("ROUND k (from 0): the last is one less than there are", () -> {
            EightMinutes x = Due.told("lm0;rm0;rm0;rm0;");
            Due.is("meets(0, 2)", x.meets(0, 2), 7);
            Due.is("meets(0, 3)", x.meets(0, 3), -1);
        });
    }

    private static void whoMeets() {
        Due.edge("LEFT l MEETS the RIGHT one whose number is l", () -> {
            EightMinutes x = Due.told(FIVE_LEFT, FIVE_RIGHT);
            for (int left = 0; left < 5; left++) {
                Due.is("meets(" + left + ", 0)", x.meets(left, 0), 5 + left);
                Due.is("meets(" + (5 + left) + ", 0)", x.meets(5 + left, 0), left);
            }
        });
        Due.edge("(l and SHIFT) modulo ROUNDS", () -> {
            EightMinutes x = Due.told("lm0;lm0;lm0;", "rm0;rm0;rm0;", "o12;");
            meets(x, 0, 7, 5, 6);
            meets(x, 1, 5, 6, 7);
            meets(x, 2, 6, 7, 5);
            meets(x, 5, 1, 0, 2);
            meets(x, 6, 2, 1, 0);
            meets(x, 7, 0, 2, 1);
        });
        Due.edge("SHIFT as great as ROUNDS, or greater", () -> {
            meets(Due.told("lm0;rm0;rm0;rm0;o13;"), 0, 5, 6, 7);
            meets(Due.told("lm0;rm0;rm0;rm0;o14;"), 0, 6, 7, 5);
            meets(Due.told("lm0;rm0;o14;"), 0, 5);
            meets(Due.told("lm0;rm0;o14;"), 5, 0);
        });
        Due.edge("(l and SHIFT and k times STEP) modulo ROUNDS: all of them greatest", () -> {
            EightMinutes x = Due.told(FIVE_LEFT, FIVE_RIGHT, "o44;");
            meets(x, 4, 8, 7, 6, 5, 9);
            meets(x, 9, 0, 1, 2, 3, 4);
            meets(x, 0, 9, 8, 7, 6, 5);
            meets(x, 5, 1, 2, 3, 4, 0);
        });
        Due.edge("(By some STEPS two MEET more than once, or never.)", () -> {
            EightMinutes x = Due.told("lm0;lm0;rm0;rm0;o20;");
            meets(x, 0, 5, 5);
            meets(x, 1, 6, 6);
            meets(x, 6, 1, 1);
            EightMinutes four = Due.told("lm0;rm0;rm0;rm0;rm0;o20;");
            meets(four, 0, 5, 7, 5, 7);
            meets(four, 6, -9, -9, -9, -9);
            four.order(4, 3);
            meets(four, 0, 8, 8, 8, 8);
        });
    }

    private static void alone() {
        Due.edge("there is none such: he is ALONE", () -> {
            EightMinutes x = Due.told("lm0;lm0;lm0;rm0;");
            meets(x, 0, 5, -9, -9);
            meets(x, 1, -9, -9, 5);
            meets(x, 2, -9, 5, -9);
            meets(x, 5, 0, 2, 1);
        });
        Due.edge("RIGHT ones whom nobody MEETS are ALONE, too", () -> {
            EightMinutes x = Due.told("lm0;rm0;rm0;rm0;");
            meets(x, 5, 0, -9, -9);
            meets(x, 6, -9, 0, -9);
            meets(x, 7, -9, -9, 0);
        });
        Due.edge("LEFT ones with nobody on the RIGHT are ALONE", () -> {
            EightMinutes x = Due.told(FIVE_LEFT);
            meets(x, 0, -9, -9, -9, -9, -9);
            meets(x, 4, -9, -9, -9, -9, -9);
            Due.is("felt", x.felt(4, 4), 999);
        });
        Due.edge("RIGHT ones with nobody on the LEFT are ALONE", () -> {
            EightMinutes x = Due.told(FIVE_RIGHT);
            meets(x, 5, -9, -9, -9, -9, -9);
            meets(x, 9, -9, -9, -9, -9, -9);
            Due.is("felt", x.felt(9, 4), 999);
        });
        Due.edge("one who comes makes a ROUND more", () -> {
            EightMinutes x = Due.told("lm0;rm0;");
            Due.is("no ROUND 1", x.meets(0, 1), -1);
            Due.tell(x, "rm0;");
            meets(x, 0, 5, 6);
            meets(x, 5, 0, -9);
        });
    }

    private static void meetsRefused() {
        Due.edge("meets: -1 no such one", () -> {
            EightMinutes x = Due.told("lm0;rm0;rm0;");
            int[] nobody = {LEAST, -5, -1, 1, 4, 7, 9, 10, GREATEST};
            for (int one : nobody) {
                Due.is("meets(" + one + ", 0)", x.meets(one, 0), -1);
            }
            Due.refusals(x, nobody.length, 0, 0, 0, 0, 0);
        });
        Due.edge("meets: -1 no such ROUND", () -> {
            EightMinutes x = Due.told("lm0;rm0;rm0;");
            int[] never = {LEAST, -1, 2, 4, 5, GREATEST};
            for (int round : never) {
                Due.is("meets(0, " + round + ")", x.meets(0, round), -1);
                Due.is("meets(5, " + round + ")", x.meets(5, round), -1);
            }
            Due.refusals(x, 2 * never.length, 0, 0, 0, 0, 0);
        });
        Due.edge("meets: -1 is told once, if neither is there", () -> {
            EightMinutes x = new EightMinutes();
            Due.is("meets(0, 0)", x.meets(0, 0), -1);
            Due.refusals(x, 1, 0, 0, 0, 0, 0);
        });
    }

    private static void feltByKinds() {
        Due.edge("m MEETER: LIKING", () ->
            felt(Due.told("lm0;" + FIVE_RIGHT, "k050;k069;k071;k088;k095;"), 0, 0, 9, 1, 8, 5));
        Due.edge("e EARLY: 2 less in ROUND 0, in no other", () ->
            felt(Due.told("le0;" + FIVE_RIGHT, "k059;k069;k079;k089;k099;"), 0, 7, 9, 9, 9, 9));
        Due.edge("t TIRED: ROUND by 2, cut, less", () ->
            felt(Due.told("lt0;" + FIVE_RIGHT, "k059;k069;k079;k089;k099;"), 0, 9, 9, 8, 8, 7));
        Due.edge("h HOPING: 1 more, if the other's LIKING of him is 5 or more, else 1 less", () -> {
            EightMinutes x = Due.told("lh0;" + FIVE_RIGHT, "k055;k065;k075;k085;k095;", "k504;k605;k706;k800;k909;");
            felt(x, 0, 4, 6, 6, 4, 6);
        });
        Due.edge("h HOPING: 1 more than 9, 1 less than 0", () ->
            felt(Due.told("lh0;rm0;rm0;", "k059;k060;k505;k604;"), 0, 10, -1));
        Due.edge("FELT by one in a ROUND: the ROUND counts, not whom he MEETS", () -> {
            felt(Due.told("le0;rm0;rm0;o11;"), 0, 3, 5);
            felt(Due.told("lt0;rm0;rm0;rm0;o12;"), 0, 5, 5, 4);
            felt(Due.told("lm0;lm0;re0;re0;"), 5, 3, 5);
        });
    }

    private static void shadedOnes() {
        Due.edge("s SHADED: 3 less, if LIKING of the one ahead is greater", () ->
            felt(Due.told("ls0;rm0;rm0;", "k056;k065;"), 0, 6, 2));
        Due.edge("s SHADED: not, if it is as great", () ->
            felt(Due.told("ls0;rm0;rm0;", "k055;k065;"), 0, 5, 5));
        Due.edge("s SHADED: not, if it is less", () ->
            felt(Due.told("ls0;rm0;rm0;", "k054;k065;"), 0, 4, 5));
        Due.edge("s SHADED: nobody is ahead of ROUND 0", () ->
            felt(Due.told("ls0;rm0;rm0;rm0;", "k050;k069;k079;"), 0, 0, 9, 9));
        Due.edge("s SHADED: of the ROUND ahead, not of one ahead of that", () ->
            felt(Due.told("ls0;rm0;rm0;rm0;", "k059;k060;k075;"), 0, 9, -3, 5));
        Due.edge("s SHADED: by LIKING, not by what was FELT", () ->
            felt(Due.told("ls0;rm0;rm0;rm0;", "k058;k067;k076;"), 0, 8, 4, 3));
        Due.edge("s SHADED: (not ALONE)", () -> {
            EightMinutes x = Due.told("lm0;lm0;rm0;rs0;rm0;", "o11;k609;k610;");
            meets(x, 6, 0, -9, 1);
            felt(x, 6, 9, 999, 0);
        });
        Due.edge("s SHADED: one met again is not liked more than himself", () ->
            felt(Due.told("ls0;rm0;rm0;o20;k059;"), 0, 9, 9));
    }

    private static void wornOnes() {
        Due.edge("w WORN: as a TIRED one", () ->
            felt(Due.told("lw0;" + FIVE_RIGHT, "k059;k069;k079;k089;k099;"), 0, 9, 9, 8, 8, 7));
        Due.edge("w WORN: 1 less behind a ROUND ALONE", () -> {
            EightMinutes x = Due.told("lm0;lm0;rm0;rm0;rw0;");
            meets(x, 7, -9, 1, 0);
            felt(x, 7, 999, 4, 4);
        });
        Due.edge("w WORN: ROUND 0 is behind none", () -> {
            EightMinutes x = Due.told("lw0;lw0;rm0;");
            meets(x, 0, 5, -9);
            felt(x, 0, 5, 999);
        });
        Due.edge("w WORN: 1 less and TIRED together", () -> {
            EightMinutes x = Due.told("lm0;rw0;rw0;rw0;rw0;rw0;");
            felt(x, 6, 999, 4, 999, 999, 999);
            felt(x, 7, 999, 999, 3, 999, 999);
            felt(x, 8, 999, 999, 999, 3, 999);
            felt(x, 9, 999, 999, 999, 999, 2);
        });
        Due.edge("w WORN: 1 less once, behind several ALONE, and no more one ROUND later", () -> {
            EightMinutes x = Due.told("lm0;lm0;", "rm0;rm0;rm0;rm0;rw0;");
            meets(x, 9, -9, -9, -9, 1, 0);
            felt(x, 9, 999, 999, 999, 3, 3);
        });
        Due.edge("t TIRED is not WORN: a ROUND ALONE is nothing to him", () ->
            felt(Due.told("lm0;lm0;rm0;rm0;rt0;"), 7, 999, 5, 4));
    }

    private static void feltLeastAndRefused() {
        Due.edge("It may be below 0", () -> {
            felt(Due.told("le0;rm0;k050;"), 0, -2);
            felt(Due.told("lh0;rm0;k050;k504;"), 0, -1);
            felt(Due.told("ls0;rm0;rm0;k051;k060;"), 0, 1, -3);
            EightMinutes x = Due.told("lm0;rm0;rm0;rm0;rt0;rw0;", "k800;k900;");
            Due.is("TIRED", x.felt(8, 3), -1);
            Due.is("WORN", x.felt(9, 4), -3);
            Due.refusals(x, 0, 0, 0, 0, 0, 0);
        });
        Due.edge("felt: 999 ALONE", () -> {
            EightMinutes x = Due.told("lm0;lm0;rm0;");
            felt(x, 0, 5, 999);
            felt(x, 1, 999, 5);
            Due.refusals(x, 0, 0, 0, 0, 0, 0);
        });
        Due.edge("Of felt() REFUSALS are 1000000000 less them: no such one", () -> {
            EightMinutes x = Due.told("lm0;rm0;rm0;");
            int[] nobody = {LEAST, -1, 1, 4, 7, 10, GREATEST};
            for (int one : nobody) {
                Due.is("felt(" + one + ", 0)", x.felt(one, 0), 1000000001);
            }
            Due.refusals(x, nobody.length, 0, 0, 0, 0, 0);
        });
        Due.edge("Of felt() REFUSALS are 1000000000 less them: no such ROUND", () -> {
            EightMinutes x = Due.told("lm0;rm0;rm0;");
            int[] never = {LEAST, -1, 2, 5, GREATEST};
            for (int round : never) {
                Due.is("felt(0, " + round + ")", x.felt(0, round), 1000000001);
            }
            Due.is("ALONE in a ROUND that is", x.felt(5, 1), 999);
            Due.refusals(x, never.length, 0, 0, 0, 0, 0);
        });
    }

    private static void saysYes() {
        Due.edge("YES in a ROUND: FELT is BAR or more", () -> {
            EightMinutes x = Due.told("lm5;rm0;rm0;rm0;", "k054;k065;k076;");
            Due.is("yeses(0, 0)", x.yeses(0, 0), 0b110);
        });
        Due.edge("YES at BAR 0 and LIKING 0, at BAR 9 and LIKING 9", () -> {
            Due.is("BAR 0", Due.told("lm0;rm0;k050;").yeses(0, 0), 1);
            Due.is("BAR 9", Due.told("lm9;rm0;k059;").yeses(0, 0), 1);
            Due.is("BAR 9, 8", Due.told("lm9;rm0;k058;").yeses(0, 0), 0);
        });
        Due.edge("FELT below 0 is less than BAR 0", () ->
            Due.is("yeses(0, 0)", Due.told("le0;rm0;rm0;k051;k061;").yeses(0, 0), 0b10));
        Due.edge("SAYS YES to another, if in some ROUND in which they MEET: in a later one alone", () -> {
            EightMinutes x = Due.told("le5;lm0;rm0;rm0;o20;");
            felt(x, 0, 3, 5);
            Due.is("yeses(0, 0)", x.yeses(0, 0), 1);
        });
        Due.edge("SAYS YES to another, if in some ROUND in which they MEET: in the first one alone", () -> {
            EightMinutes x = Due.told("lt5;rm0;rm0;rm0;o30;");
            felt(x, 0, 5, 5, 4);
            Due.is("yeses(0, 0)", x.yeses(0, 0), 1);
        });
        Due.edge("to one whom he never MEETS nobody SAYS YES", () -> {
            EightMinutes x = Due.told("lm0;rm0;rm0;o20;k069;");
            Due.is("yeses(0, 0)", x.yeses(0, 0), 0b01);
            Due.is("yeses(6, 0)", x.yeses(6, 0), 0);
            Due.is("yeses(6, 1)", x.yeses(6, 1), 0);
        });
        Due.edge("ALONE nobody SAYS YES", () -> {
            EightMinutes x = Due.told("lm0;lm0;");
            Due.is("yeses(0, 0)", x.yeses(0, 0), 0);
            Due.is("yeses(0, 1)", x.yeses(0, 1), 0);
        });
    }

    private static void yeses() {
        Due.edge("YESES of one (bits of the other SIDE's numbers 0 .. 4)", () -> {
            EightMinutes x = Due.told("lm5;lm0;lm0;lm0;lm5;", "rm5;rm0;rm0;rm0;rm5;",
                "k050;k060;k070;k080;k095;", "k500;k510;k520;k530;k545;");
            Due.is("the last of RIGHT", x.yeses(0, 0), 0b10000);
            Due.is("the last of LEFT", x.yeses(5, 0), 0b10000);
            Due.is("all of RIGHT", x.yeses(1, 0), 0b11111);
            Due.is("all of LEFT", x.yeses(6, 0), 0b11111);
        });
        Due.edge("YESES to one (bits of the other SIDE's numbers 0 .. 4)", () -> {
            EightMinutes x = Due.told("lm5;lm5;lm5;lm5;lm5;", "rm5;rm5;rm5;rm5;rm5;",
                "k050;k150;k250;k350;k904;k914;k924;k934;");
            Due.is("the last of LEFT", x.yeses(5, 1), 0b10000);
            Due.is("all of LEFT", x.yeses(6, 1), 0b11111);
            Due.is("all of RIGHT but the last", x.yeses(0, 1), 0b01111);
            Due.is("all of RIGHT", x.yeses(4, 1), 0b11111);
        });
        Due.edge("yeses: -1", () -> {
            EightMinutes x = Due.told("lm0;rm0;");
            int[] nobody = {LEAST, -1, 1, 4, 6, 9, 10, GREATEST};
            for (int one : nobody) {
                Due.is("yeses(" + one + ", 0)", x.yeses(one, 0), -1);
                Due.is("yeses(" + one + ", 1)", x.yeses(one, 1), -1);
            }
            Due.refusals(x, 2 * nobody.length, 0, 0, 0, 0, 0);
        });
        Due.edge("yeses: -2", () -> {
            EightMinutes x = Due.told("lm0;rm0;");
            int[] others = {LEAST, -1, 2, GREATEST};
            for (int what : others) {
                Due.is("yeses(0, " + what + ")", x.yeses(0, what), -2);
            }
            Due.refusals(x, 0, others.length, 0, 0, 0, 0);
        });
        Due.edge("yeses: -1 is told ahead of -2", () -> {
            EightMinutes x = new EightMinutes();
            Due.is("yeses(0, 2)", x.yeses(0, 2), -1);
            Due.refusals(x, 1, 0, 0, 0, 0, 0);
        });
    }

    /** By the LAW: pairs(one), how many in all, and the same of glad(). */
    private static void pairs(EightMinutes x, int law, int one, int bits, int inAll) {
        x.law(law);
        Due.is("pairs(" + one + ") by LAW " + law, x.pairs(one), bits);
        Due.is("pairs(-1) by LAW " + law, x.pairs(-1), inAll);
        Due.is("glad(" + law + ", 0)", x.glad(law, 0), inAll);
    }

    private static void both() {
        Due.edge("BOTH: all two who both SAY YES to each other", () -> {
            EightMinutes x = Due.told("lm5;rm5;rm5;rm5;rm5;", "k064;k084;k704;k804;");
            pairs(x, 0, 0, 0b0001, 1);
            pairs(x, 0, 6, 0, 1);
            pairs(x, 0, 7, 0, 1);
        });
        Due.edge("BOTH: not, if but the LEFT or but the RIGHT one SAYS YES, the first and the last of them", () -> {
            EightMinutes left = Due.told("lm9;lm0;lm0;lm0;lm9;", FIVE_RIGHT);
            pairs(left, 0, 0, 0, 15);
            pairs(left, 0, 5, 0b01110, 15);
            pairs(left, 0, 9, 0b01110, 15);
            EightMinutes right = Due.told(FIVE_LEFT, "rm9;rm0;rm0;rm0;rm9;");
            pairs(right, 0, 5, 0, 15);
            pairs(right, 0, 0, 0b01110, 15);
            pairs(right, 0, 4, 0b01110, 15);
        });
        Due.edge("BOTH: as many as can be", () -> {
            EightMinutes x = Due.told(FIVE_LEFT, FIVE_RIGHT);
            pairs(x, 0, 4, 0b11111, 25);
            pairs(x, 0, 9, 0b11111, 25);
        });
        Due.edge("PAIRS of nobody", () -> {
            for (int law = 0; law <= 3; law++) {
                EightMinutes x = new EightMinutes();
                x.law(law);
                Due.is("pairs(-1)", x.pairs(-1), 0);
                Due.is("glad(" + law + ", 0)", x.glad(law, 0), 0);
                Due.is("glad(" + law + ", 1)", x.glad(law, 1), 0);
            }
        });
    }

    private static void three() {
        Due.edge("THREE: only the three of them to whom he LIKES most", () ->
            pairs(Due.told("lm0;" + FIVE_RIGHT, "k051;k069;k072;k088;k097;"), 1, 0, 0b11010, 3));
        Due.edge("THREE: (of several the least numbers)", () -> {
            pairs(Due.told("lm0;" + FIVE_RIGHT), 1, 0, 0b00111, 3);
            pairs(Due.told("lm0;" + FIVE_RIGHT, "k099;"), 1, 0, 0b10011, 3);
            pairs(Due.told("lm0;" + FIVE_RIGHT, "k089;k099;k054;"), 1, 0, 0b11010, 3);
            pairs(Due.told(FIVE_LEFT + "rm0;"), 1, 5, 0b00111, 3);
        });
        Due.edge("THREE: of three YESES all, of fewer all", () -> {
            pairs(Due.told("lm5;" + FIVE_RIGHT, "k050;k070;"), 1, 0, 0b11010, 3);
            pairs(Due.told("lm5;" + FIVE_RIGHT, "k050;k070;k080;"), 1, 0, 0b10010, 2);
            pairs(Due.told("lm9;" + FIVE_RIGHT), 1, 0, 0, 0);
        });
        Due.edge("THREE: of YESES of one, not of all whom he LIKES", () -> {
            EightMinutes x = Due.told("le5;" + FIVE_RIGHT, "k056;");
            Due.is("yeses(0, 0)", x.yeses(0, 0), 0b11110);
            pairs(x, 1, 0, 0b01110, 3);
        });
        Due.edge("THREE under BOTH: either has but three", () -> {
            EightMinutes x = Due.told(FIVE_LEFT, FIVE_RIGHT);
            pairs(x, 1, 0, 0b00111, 9);
            pairs(x, 1, 3, 0, 9);
            pairs(x, 1, 9, 0, 9);
        });
    }

    private static void one() {
        Due.edge("ONE: only to the one he LIKES most of those", () ->
            pairs(Due.told("lm0;" + FIVE_RIGHT, "k096;"), 2, 0, 0b10000, 1));
        Due.edge("ONE: of several the least number", () -> {
            pairs(Due.told("lm0;" + FIVE_RIGHT), 2, 0, 0b00001, 1);
            pairs(Due.told(FIVE_LEFT + "rm0;", "k537;k547;"), 2, 5, 0b01000, 1);
        });
        Due.edge("ONE: of YESES of one, not of all whom he LIKES", () ->
            pairs(Due.told("le5;rm0;rm0;", "k056;"), 2, 0, 0b10, 1));
        Due.edge("ONE: both must LIKE each other most", () -> {
            EightMinutes x = Due.told("lm0;lm0;rm0;", "k516;");
            pairs(x, 2, 0, 0, 1);
            pairs(x, 2, 1, 1, 1);
        });
        Due.edge("ONE: nobody, if there are no YESES", () ->
            pairs(Due.told("lm9;rm0;"), 2, 0, 0, 0));
        Due.edge("LIKING becomes v: by all LAWS at once", () -> {
            EightMinutes x = Due.told("lm0;" + FIVE_RIGHT);
            x.like(0, 9, 9);
            pairs(x, 1, 0, 0b10011, 3);
            pairs(x, 2, 0, 0b10000, 1);
            pairs(x, 3, 0, 0b10000, 1);
            Due.is("glad(2, 1)", x.glad(2, 1), 14);
        });
    }

    private static void byRanks() {
        Due.edge("RANKS: LEFT and RIGHT as by ranks, who both SAY YES", () -> {
            pairs(Due.told("lm0;lm0;rm0;rm0;", "k069;k159;"), 3, 0, 0b10, 2);
            EightMinutes x = Due.told("lm0;lm9;rm0;rm0;", "k069;");
            Due.is("1 gets 5", x.ranks(1), 5);
            pairs(x, 3, 1, 0, 1);
            EightMinutes y = Due.told("lm0;lm0;rm0;rm9;");
            Due.is("6 gets 1", y.ranks(6), 1);
            pairs(y, 3, 1, 0, 1);
        });
        Due.edge("RANKS: one who gets nobody has no PAIR", () -> {
            EightMinutes x = Due.told("lm0;lm0;rm0;");
            pairs(x, 3, 1, 0, 1);
            pairs(x, 3, 0, 1, 1);
        });
        Due.edge("RANKS: by whom LEFT ask, though they never MEET", () -> {
            EightMinutes x = Due.told("lm0;rm0;rm0;o20;k069;");
            Due.is("ranks(0)", x.ranks(0), 6);
            pairs(x, 3, 0, 0, 0);
        });
        Due.edge("RANKS: if LEFT ask, not if RIGHT ask", () -> {
            EightMinutes x = Due.told("lm0;lm0;rm0;rm0;", "k056;k166;k516;k606;");
            Due.is("ranks(0)", x.ranks(0), 5);
            Due.is("asked(0)", x.asked(0), 6);
            pairs(x, 3, 0, 0b01, 2);
        });
    }

    private static void pairsAndGladRefused() {
        Due.edge("pairs: one -1: how many in all, which is no refusal", () -> {
            EightMinutes x = Due.told("lm0;rm0;rm0;");
            Due.is("pairs(-1)", x.pairs(-1), 2);
            Due.refusals(x, 0, 0, 0, 0, 0, 0);
        });
        Due.edge("pairs: -1", () -> {
            EightMinutes x = Due.told("lm0;rm0;rm0;");
            int[] nobody = {LEAST, -2, 1, 4, 7, 9, 10, GREATEST};
            for (int one : nobody) {
                Due.is("pairs(" + one + ")", x.pairs(one), -1);
            }
            Due.refusals(x, nobody.length, 0, 0, 0, 0, 0);
        });
        Due.edge("GLAD: LIKINGS of both in all PAIRS together", () -> {
            Due.is("the greatest", Due.told("lm0;rm0;k059;k509;").glad(0, 1), 18);
            Due.is("the least", Due.told("lm0;rm0;k050;k500;").glad(0, 1), 0);
            Due.is("of no PAIR", Due.told("lm9;rm0;").glad(0, 1), 0);
            Due.is("of 25", Due.told(FIVE_LEFT, FIVE_RIGHT).glad(0, 1), 250);
            Due.is("LIKINGS, not FELT", Due.told("le0;rm0;").glad(0, 1), 10);
        });
        Due.edge("PAIRS, GLAD by another LAW: the LAW stays", () -> {
            EightMinutes x = Due.told("lm0;rm0;rm0;rm0;rm0;", "w1;");
            Due.is("glad(0, 0)", x.glad(0, 0), 4);
            Due.is("glad(2, 1)", x.glad(2, 1), 10);
            Due.is("count(5)", x.count(5), 1);
            Due.is("pairs(-1)", x.pairs(-1), 3);
        });
        Due.edge("glad: -2 no such LAW", () -> {
            EightMinutes x = Due.told("lm0;rm0;");
            int[] others = {LEAST, -1, 4, GREATEST};
            for (int law : others) {
                Due.is("glad(" + law + ", 0)", x.glad(law, 0), -2);
            }
            Due.refusals(x, 0, others.length, 0, 0, 0, 0);
        });
        Due.edge("glad: -2 no such what", () -> {
            EightMinutes x = Due.told("lm0;rm0;");
            int[] others = {LEAST, -1, 2, GREATEST};
            for (int what : others) {
                Due.is("glad(3, " + what + ")", x.glad(3, what), -2);
            }
            Due.is("glad(9, 9)", x.glad(9, 9), -2);
            Due.refusals(x, 0, others.length + 1, 0, 0, 0, 0);
        });
    }

    private static void gaps() {
        Due.edge("GAPS of one: ROUNDS ALONE, none of them", () -> {
            EightMinutes x = Due.told(FIVE_LEFT, FIVE_RIGHT);
            Due.is("person(0, 2)", x.person(0, 2), 0);
            Due.is("person(9, 2)", x.person(9, 2), 0);
            Due.is("count(6)", x.count(6), 0);
        });
        Due.edge("GAPS of one: ROUNDS ALONE, all of them", () -> {
            EightMinutes x = Due.told(FIVE_RIGHT);
            Due.is("person(9, 2)", x.person(9, 2), 5);
            Due.is("count(6)", x.count(6), 25);
        });
        Due.edge("GAPS of one who is met again and again, and of one who is never met", () -> {
            EightMinutes x = Due.told("lm0;rm0;rm0;rm0;o31;");
            Due.is("person(0, 2)", x.person(0, 2), 0);
            Due.is("person(6, 2)", x.person(6, 2), 0);
            Due.is("person(5, 2)", x.person(5, 2), 3);
            Due.is("count(6)", x.count(6), 6);
        });
        Due.edge("all GAPS: of both SIDES", () -> {
            Due.is("of the RIGHT", Due.told("lm0;rm0;rm0;rm0;").count(6), 6);
            Due.is("of the LEFT", Due.told("lm0;lm0;lm0;rm0;").count(6), 6);
            Due.is("of one", Due.told("lm0;").count(6), 1);
            Due.is("of nobody", new EightMinutes().count(6), 0);
        });
    }

    private static void shadedRounds() {
        Due.edge("SHADED of nobody", () -> Due.is("shaded()", new EightMinutes().shaded(), 0));
        Due.edge("SHADED: ROUNDS ALONE are none of them", () -> {
            Due.is("LEFT only", Due.told("le0;lt0;lw0;lh0;ls0;").shaded(), 0);
            Due.is("RIGHT only", Due.told("re0;rt0;rw0;rh0;rs0;").shaded(), 0);
            Due.is("one of two is ALONE", Due.told("lh0;lh0;rm0;").shaded(), 2);
        });
        Due.edge("SHADED: of all PEOPLE, as many as can be", () ->
            Due.is("shaded()", Due.told("lh0;lh0;lh0;lh0;lh0;", "rh0;rh0;rh0;rh0;rh0;").shaded(), 50));
        Due.edge("SHADED: FELT is unlike LIKING, more or less", () -> {
            Due.is("more", Due.told("lh0;rm0;k505;").shaded(), 1);
            Due.is("less", Due.told("lh0;rm0;k504;").shaded(), 1);
            Due.is("WORN behind one ALONE", Due.told("lm0;rm0;rw0;").shaded(), 1);
            Due.is("TIRED in ROUND 0 and 1", Due.told("lt0;rm0;rm0;").shaded(), 0);
        });
        Due.edge("SHADED: a ROUND with one met before counts, too", () ->
            Due.is("shaded()", Due.told("lh0;rm0;rm0;o20;").shaded(), 2));
    }

    private static void bestOrder() {
        Due.edge("BEST ORDER of nobody", () -> Due.is("bestOrder()", new EightMinutes().bestOrder(), 10));
        Due.edge("BEST ORDER of one SIDE", () -> {
            Due.is("LEFT", Due.told(FIVE_LEFT).bestOrder(), 10);
            Due.is("RIGHT", Due.told(FIVE_RIGHT, "o44;").bestOrder(), 10);
        });
        Due.edge("BEST ORDER: of several the least", () -> {
            Due.is("all alike", Due.told(FIVE_LEFT, FIVE_RIGHT, "o32;").bestOrder(), 10);
            // In 2 ROUNDS SHIFT 3 is as SHIFT 1, STEP 3 as STEP 1.
            EightMinutes x = Due.told("ls0;rm0;rm0;k059;k060;");
            x.order(1, 1);
            Due.is("SHADED by 11", x.shaded(), 0);
            x.order(1, 3);
            Due.is("SHADED by 13", x.shaded(), 0);
            Due.is("least of both", x.bestOrder(), 11);
        });
        Due.edge("BEST ORDER: STEP and SHIFT up to the greatest", () -> {
            // Only from the last one down to the first is nobody shaded: 9, 8, 7, 6, 5.
            EightMinutes x = Due.told("ls0;" + FIVE_RIGHT, "k059;k068;k077;k086;k095;");
            Due.is("bestOrder()", x.bestOrder(), 44);
            x.order(4, 4);
            Due.is("shaded()", x.shaded(), 0);
        });
        Due.edge("BEST ORDER: by which all MEET all that can", () -> {
            // By STEP 2 each MEETS the same one twice, and nobody is shaded; else one always is.
            EightMinutes x = Due.told("ls0;ls0;rm0;rm0;k059;k060;k159;k160;o20;");
            Due.is("SHADED by 20", x.shaded(), 0);
            x.order(1, 0);
            Due.is("SHADED by 10", x.shaded(), 1);
            Due.is("bestOrder()", x.bestOrder(), 10);
            Due.is("the only one on the LEFT", Due.told("lm0;rh0;rm0;o21;").bestOrder(), 10);
            // By 41 the one on the RIGHT would MEET only a MEETER.
            Due.is("one of the RIGHT, LEFT ones HOPING", Due.told("lh0;lh0;lm0;lm0;rm0;").bestOrder(), 10);
        });
        Due.edge("BEST ORDER: each pair at least once, by any SIDE that is greater", () -> {
            for (int right = 1; right <= 5; right++) {
                EightMinutes x = Due.told("lh0;lm0;lm0;lm0;", FIVE_RIGHT.substring(0, 4 * right));
                int step = x.bestOrder() / 10;
                Due.holds("STEP " + step + " lets all MEET", right == 5 || step % 2 == 1);
            }
        });
        Due.edge("BEST ORDER: (if there is such; -9): by STEP 1 there is always", () -> {
            for (int left = 0; left <= 5; left++) {
                for (int right = 0; right <= 5; right++) {
                    EightMinutes x = new EightMinutes();
                    Due.tell(x, "lw0;lt0;ls0;lh0;le0;".substring(0, 4 * left) + "rs0;rw0;re0;rt0;rh0;".substring(0, 4 * right));
                    Due.holds("of " + left + " and " + right, x.bestOrder() >= 10);
                }
            }
        });
        Due.edge("BEST ORDER is told, not taken", () -> {
            EightMinutes x = Due.told("ls0;" + FIVE_RIGHT, "k059;k068;k077;k086;k095;", "o21;");
            String ahead = Due.look(x);
            x.bestOrder();
            Due.holds("all stays: " + ahead, Due.look(x).equals(ahead));
        });
    }
}
