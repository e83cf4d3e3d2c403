/** A test of its own for each boundary case that the document names: ranks, firm ways, rows, lots, images, counts. */
public final class HavingEdgeTests {
    private static final String FIVE_LEFT = "lm0;lm0;lm0;lm0;lm0;";
    private static final String FIVE_RIGHT = "rm0;rm0;rm0;rm0;rm0;";
    private static final int LEAST = Integer.MIN_VALUE;
    private static final int GREATEST = Integer.MAX_VALUE;

    public static void main(String[] args) {
        ranks();
        asked();
        ranksAndAskedRefused();
        firm();
        row();
        ratherOfTwo();
        ratherFirst();
        ratherRefused();
        truly();
        trulyByKinds();
        judge();
        clear();
        lots();
        draws();
        image();
        on();
        count();
        refusals();
        Due.end();
    }

    private static void ranks(EightMinutes x, int first, int... due) {
        for (int i = 0; i < due.length; i++) {
            Due.is("ranks(" + (first + i) + ")", x.ranks(first + i), due[i]);
        }
    }

    private static void asked(EightMinutes x, int first, int... due) {
        for (int i = 0; i < due.length; i++) {
            Due.is("asked(" + (first + i) + ")", x.asked(first + i), due[i]);
        }
    }

    private static void ranks() {
        Due.edge("RANKS: LEFT ask the RIGHT one they LIKE most (of several the least)", () -> {
            EightMinutes x = Due.told("lm0;rm0;rm0;rm0;");
            ranks(x, 0, 5);
            x.like(0, 7, 6);
            ranks(x, 0, 7);
            x.like(0, 6, 6);
            ranks(x, 0, 6);
        });
        Due.edge("RANKS: RIGHT ones keep the one LIKED most of those who asked (of several the least)", () -> {
            EightMinutes x = Due.told("lm0;lm0;lm0;rm0;");
            ranks(x, 5, 0);
            x.like(5, 2, 6);
            ranks(x, 5, 2);
            x.like(5, 1, 6);
            ranks(x, 5, 1);
        });
        Due.edge("RANKS: of those whom he has not asked: one sent away asks the next", () -> {
            EightMinutes x = Due.told("lm0;lm0;lm0;rm0;rm0;rm0;", "k059;k068;k159;k168;k259;k268;");
            ranks(x, 0, 5, 6, 7);
            x.like(5, 2, 9);
            ranks(x, 0, 6, 7, 5);
        });
        Due.edge("RANKS: each RIGHT one keeps: one kept may be sent away later, and ask all", () -> {
            EightMinutes x = Due.told(FIVE_LEFT, FIVE_RIGHT);
            for (int right = 5; right <= 9; right++) {
                for (int left = 0; left <= 4; left++) {
                    x.like(right, left, left);
                }
            }
            ranks(x, 0, 9, 8, 7, 6, 5);
            ranks(x, 5, 4, 3, 2, 1, 0);
        });
        Due.edge("RANKS: LIKING 0 is no refusal", () -> {
            EightMinutes x = Due.told("lm0;rm0;k050;k500;");
            ranks(x, 0, 5);
            ranks(x, 5, 0);
        });
        Due.edge("RANKS: -9 nobody", () -> {
            EightMinutes more = Due.told("lm0;lm0;rm0;");
            ranks(more, 0, 5, -9);
            EightMinutes less = Due.told("lm0;rm0;rm0;");
            ranks(less, 5, 0, -9);
            ranks(Due.told(FIVE_LEFT), 0, -9, -9, -9, -9, -9);
            ranks(Due.told(FIVE_RIGHT), 5, -9, -9, -9, -9, -9);
            Due.refusals(less, 0, 0, 0, 0, 0, 0);
        });
    }

    private static void asked() {
        Due.edge("ASKED: RIGHT ask the LEFT one they LIKE most (of several the least)", () -> {
            EightMinutes x = Due.told("lm0;lm0;lm0;rm0;");
            asked(x, 5, 0);
            x.like(5, 2, 6);
            asked(x, 5, 2);
            x.like(5, 1, 6);
            asked(x, 5, 1);
        });
        Due.edge("ASKED: LEFT ones keep the one LIKED most of those who asked (of several the least)", () -> {
            EightMinutes x = Due.told("lm0;rm0;rm0;rm0;");
            asked(x, 0, 5);
            x.like(0, 7, 6);
            asked(x, 0, 7);
            x.like(0, 6, 6);
            asked(x, 0, 6);
        });
        Due.edge("ASKED: the same, if RIGHT ask: where it makes a difference", () -> {
            EightMinutes x = Due.told("lm0;lm0;rm0;rm0;", "k056;k166;k516;k606;");
            ranks(x, 0, 5, 6);
            ranks(x, 5, 0, 1);
            asked(x, 0, 6, 5);
            asked(x, 5, 1, 0);
        });
        Due.edge("ASKED: -9 nobody", () -> {
            asked(Due.told("lm0;lm0;rm0;"), 0, 5, -9);
            asked(Due.told("lm0;rm0;rm0;"), 5, 0, -9);
            asked(Due.told(FIVE_LEFT), 0, -9, -9, -9, -9, -9);
            asked(Due.told(FIVE_RIGHT), 5, -9, -9, -9, -9, -9);
        });
    }

    private static void ranksAndAskedRefused() {
        int[] nobody = {LEAST, -9, -1, 1, 4, 7, 9, 10, GREATEST};
        Due.edge("ranks: -1", () -> {
            EightMinutes x = Due.told("lm0;rm0;rm0;");
            for (int one : nobody) {
                Due.is("ranks(" + one + ")", x.ranks(one), -1);
            }
            Due.refusals(x, nobody.length, 0, 0, 0, 0, 0);
        });
        Due.edge("asked: -1", () -> {
            EightMinutes x = Due.told("lm0;rm0;rm0;");
            for (int one : nobody) {
                Due.is("asked(" + one + ")", x.asked(one), -1);
            }
            Due.refusals(x, nobody.length, 0, 0, 0, 0, 0);
        });
    }

    private static void firm() {
        Due.edge("FIRM of nobody, and of one SIDE: the one way to have nobody", () -> {
            Due.is("nobody", new EightMinutes().firm(), 1);
            Due.is("LEFT", Due.told(FIVE_LEFT).firm(), 1);
            Due.is("RIGHT", Due.told(FIVE_RIGHT).firm(), 1);
        });
        Due.edge("each of the lesser SIDE can have another one of the other", () -> {
            Due.is("LEFT is lesser", Due.told("lm0;lm0;", FIVE_RIGHT).firm(), 20);
            Due.is("RIGHT is lesser", Due.told(FIVE_LEFT, "rm0;rm0;").firm(), 20);
            Due.is("one on the LEFT", Due.told("lm0;", FIVE_RIGHT).firm(), 5);
            Due.is("one on the RIGHT", Due.told(FIVE_LEFT, "rm0;").firm(), 5);
        });
        Due.edge("(of LEFT, if they are as many)", () -> {
            Due.is("one each", Due.told("lm0;rm0;").firm(), 1);
            Due.is("five each", Due.told(FIVE_LEFT, FIVE_RIGHT).firm(), 120);
        });
        Due.edge("no two each LIKE the other more than whom they have: as much is not more", () -> {
            EightMinutes x = Due.told("lm0;lm0;rm0;rm0;", "k056;");
            Due.is("one of two LIKES the other more", x.firm(), 2);
            x.like(5, 0, 6);
            Due.is("both LIKE the other more", x.firm(), 1);
            x.like(5, 1, 6);
            Due.is("he has one whom he LIKES as much", x.firm(), 2);
        });
        Due.edge("(to have nobody is less than any LIKING): than 0", () -> {
            EightMinutes left = Due.told("lm0;lm0;rm0;k050;k150;k501;k510;");
            Due.is("1 would have 5, who LIKES 0 more", left.firm(), 1);
            left.like(5, 0, 0);
            left.like(5, 1, 1);
            Due.is("0 would have 5, who LIKES 1 more", left.firm(), 1);
            EightMinutes right = Due.told("lm0;rm0;rm0;k051;k060;k500;k600;");
            Due.is("5 would have 0, who LIKES 5 more", right.firm(), 1);
            right.like(0, 5, 0);
            Due.is("0 LIKES neither more", right.firm(), 2);
        });
        Due.edge("FIRM where all go round: what LEFT ask for, what RIGHT ask for, and one between", () -> {
            EightMinutes x = Due.told("lm0;lm0;lm0;rm0;rm0;rm0;", "k059;k068;k077;k169;k178;k157;k279;k258;k267;",
                "k519;k528;k507;k629;k608;k617;k709;k718;k727;");
            Due.is("firm()", x.firm(), 3);
            ranks(x, 0, 5, 6, 7);
            asked(x, 0, 7, 5, 6);
        });
        Due.edge("FIRM is not of those who MEET, nor of YESES", () ->
            Due.is("firm()", Due.told("le9;rm9;rm9;o20;k500;k600;").firm(), 2));
    }

    private static void row() {
        Due.edge("A number more of the ROW (0 .. 31)", () -> {
            EightMinutes x = new EightMinutes();
            Due.is("row(0)", x.row(0), 1);
            Due.is("row(31)", x.row(31), 2);
        });
        Due.edge("row: -4", () -> {
            EightMinutes x = new EightMinutes();
            Due.is("row(-1)", x.row(-1), -4);
            Due.is("row(least)", x.row(LEAST), -4);
            Due.is("in the ROW", x.count(7), 0);
            Due.refusals(x, 0, 0, 0, 2, 0, 0);
        });
        Due.edge("row: -6 (31)", () -> {
            EightMinutes x = new EightMinutes();
            Due.is("row(32)", x.row(32), -6);
            Due.is("row(greatest)", x.row(GREATEST), -6);
            Due.is("in the ROW", x.count(7), 0);
            Due.refusals(x, 0, 0, 0, 0, 0, 2);
        });
        Due.edge("row: -6 (10, too)", () -> {
            EightMinutes x = new EightMinutes();
            for (int i = 1; i <= 10; i++) {
                Due.is("row " + i, x.row(1), i);
            }
            Due.is("row 11", x.row(1), -6);
            Due.is("in the ROW", x.count(7), 10);
            Due.refusals(x, 0, 0, 0, 0, 0, 1);
        });
        Due.edge("row: -4 is told ahead of -6", () -> {
            EightMinutes x = new EightMinutes();
            Due.row(x, 1, 1, 1, 1, 1, 1, 1, 1, 1, 1);
            Due.is("an 11th number below 0", x.row(-1), -4);
            Due.refusals(x, 0, 0, 0, 1, 0, 0);
        });
        Due.edge("row: one refused changes nothing", () -> {
            EightMinutes x = Due.told(FIVE_LEFT, FIVE_RIGHT);
            Due.row(x, 31, 31, 31, 31, 31, 31, 31, 31, 31, 31);
            x.row(0);
            x.row(32);
            x.row(-1);
            Due.is("judge()", x.judge(), -9);
        });
    }

    private static void rather(EightMinutes x, int due, int... row) {
        Due.row(x, row);
        Due.is("rather() of " + java.util.Arrays.toString(row), x.rather(), due);
    }

    private static void ratherOfTwo() {
        Due.edge("RATHER: who would so rather have each other: each LIKES the other more", () -> {
            EightMinutes x = Due.told("lm0;lm0;rm0;rm0;", "k056;k506;");
            rather(x, 0, 1, 0);
            rather(x, -9, 0, 1);
        });
        Due.edge("RATHER: not, if but one LIKES the other more", () -> {
            rather(Due.told("lm0;lm0;rm0;rm0;", "k056;"), -9, 1, 0);
            rather(Due.told("lm0;lm0;rm0;rm0;", "k506;"), -9, 1, 0);
        });
        Due.edge("RATHER: not, if one LIKES whom he has as much", () -> {
            rather(Due.told("lm0;lm0;rm0;rm0;", "k056;k066;k506;"), -9, 1, 0);
            rather(Due.told("lm0;lm0;rm0;rm0;", "k056;k506;k516;"), -9, 1, 0);
        });
        Due.edge("RATHER: to have nobody is less than any LIKING: than 0", () -> {
            rather(Due.told("lm0;rm0;k050;k500;"), 0, 9);
            rather(Due.told("lm0;rm0;rm0;k050;k061;k500;"), 0, 9);
            rather(Due.told("lm0;lm0;rm0;k500;k511;k050;"), -9, 9, 0);
            rather(Due.told("lm0;lm0;rm0;k501;k510;k050;"), 0, 9, 0);
            rather(Due.told("lm0;rm0;rm0;k051;k060;k500;"), 0, 1);
            rather(Due.told("lm0;rm0;rm0;k050;k060;k500;"), -9, 1);
        });
        Due.edge("RATHER: -9, if all have whom they LIKE", () -> {
            rather(Due.told(FIVE_LEFT, FIVE_RIGHT), -9, 4, 3, 2, 1, 0);
            rather(Due.told("lm0;rm0;"), -9, 0);
        });
        Due.edge("RATHER: -9 of nobody, of one SIDE", () -> {
            rather(new EightMinutes(), -9);
            rather(Due.told(FIVE_RIGHT), -9);
            rather(Due.told("lm0;lm0;"), -9, 9, 9);
        });
    }

    private static void ratherFirst() {
        Due.edge("RATHER: the first two: the least LEFT one, and the least RIGHT one for him", () -> {
            EightMinutes x = Due.told("lm0;lm0;lm0;rm0;rm0;rm0;");
            rather(x, 0, 9, 9, 9);
            rather(x, 1, 9, 0, 9);
            rather(x, 10, 2, 9, 9);
            rather(x, 11, 0, 9, 9);
            rather(x, 22, 0, 1, 9);
        });
        Due.edge("RATHER: 10 times the LEFT and the RIGHT, the greatest of both", () ->
            rather(Due.told(FIVE_LEFT, FIVE_RIGHT), 44, 3, 2, 1, 0, 9));
        Due.edge("RATHER: the first, though the second LIKE each other more", () -> {
            EightMinutes x = Due.told("lm0;lm0;rm0;rm0;", "k056;k506;k169;k619;");
            rather(x, 0, 1, 0);
        });
        Due.edge("RATHER: (the ROW stays)", () -> {
            EightMinutes x = Due.told("lm0;lm0;rm0;rm0;");
            rather(x, -9, 1, 0);
            Due.is("in the ROW", x.count(7), 2);
            Due.is("rather() again", x.rather(), -9);
            rather(x, 1, 9, 0);
            Due.is("in the ROW", x.count(7), 2);
            Due.is("rather() again", x.rather(), 1);
        });
    }

    private static void ratherRefused() {
        Due.edge("rather: -3 the ROW is too short", () -> {
            EightMinutes x = Due.told("lm0;lm0;rm0;rm0;rm0;");
            rather(x, -3);
            rather(x, -3, 0);
            Due.refusals(x, 0, 0, 2, 0, 0, 0);
        });
        Due.edge("rather: -3 the ROW is too long", () -> {
            EightMinutes x = Due.told("lm0;lm0;rm0;rm0;rm0;");
            rather(x, -3, 0, 1, 2);
            rather(x, -3, 0, 1, 9);
            rather(x, -3, 0, 1, 9, 9, 9, 9, 9, 9, 9, 9);
            rather(new EightMinutes(), -3, 9);
            Due.refusals(x, 0, 0, 3, 0, 0, 0);
        });
        Due.edge("rather: -3 none twice", () -> {
            EightMinutes x = Due.told("lm0;lm0;lm0;rm0;rm0;rm0;");
            rather(x, -3, 0, 0, 1);
            rather(x, -3, 2, 1, 2);
            rather(x, -3, 9, 1, 1);
            Due.refusals(x, 0, 0, 3, 0, 0, 0);
        });
        Due.edge("rather: 9 nobody: more than one have nobody", () -> {
            EightMinutes x = Due.told("lm0;lm0;lm0;rm0;");
            rather(x, -9, 9, 0, 9);
            Due.refusals(x, 0, 0, 0, 0, 0, 0);
        });
        Due.edge("rather: -3 nobody of that number on the RIGHT", () -> {
            EightMinutes x = Due.told("lm0;rm0;rm0;");
            int[] nobody = {2, 3, 4, 5, 8, 10, 31};
            for (int number : nobody) {
                rather(x, -3, number);
            }
            rather(x, -9, 1);
            Due.refusals(x, 0, 0, nobody.length, 0, 0, 0);
            EightMinutes five = Due.told("lm0;", FIVE_RIGHT);
            rather(five, -9, 4);
            rather(five, -3, 5);
            rather(five, 0, 9);
        });
        Due.edge("rather: one refused changes nothing, the ROW stays", () -> {
            EightMinutes x = Due.told("lm0;lm0;rm0;rm0;");
            rather(x, -3, 1);
            Due.is("in the ROW", x.count(7), 1);
            Due.is("row(0)", x.row(0), 2);
            Due.is("rather()", x.rather(), -9);
        });
    }

    private static void truly() {
        Due.edge("TRULY: LIKINGS (bits 0 .. 9): from the BAR on, below the BAR", () -> {
            EightMinutes x = Due.told("lm5;lm9;rm0;", "k055;k154;");
            Due.is("YES", x.truly(0, 5), 0b1111100000);
            Due.is("no YES", x.truly(1, 5), 0b0111111111);
            x.like(0, 5, 4);
            x.like(1, 5, 9);
            Due.is("no YES", x.truly(0, 5), 0b0000011111);
            Due.is("YES", x.truly(1, 5), 0b1000000000);
            Due.is("BAR 0", x.truly(5, 0), 0b1111111111);
        });
        Due.edge("TRULY: all, of one whom he never MEETS", () -> {
            EightMinutes x = Due.told("lm5;rm0;rm0;o20;");
            Due.is("truly(0, 6)", x.truly(0, 6), 0b1111111111);
            Due.is("truly(6, 0)", x.truly(6, 0), 0b1111111111);
        });
        Due.edge("TRULY: all, if none makes it YES", () -> {
            EightMinutes x = Due.told("le9;rm0;");
            Due.is("truly(0, 5)", x.truly(0, 5), 0b1111111111);
        });
        Due.edge("TRULY: (all else as it is): nothing changes", () -> {
            EightMinutes x = Due.told("lm5;rm5;rm5;", "k053;k507;w2;o21;");
            String ahead = Due.look(x);
            x.truly(0, 5);
            x.truly(5, 0);
            Due.holds("all is as it was: " + ahead, Due.look(x).equals(ahead));
        });
        Due.edge("truly: -1", () -> {
            EightMinutes x = Due.told("lm0;lm0;rm0;rm0;");
            int[] nobody = {LEAST, -5, -1, 1, 2, 4, 7, 9, 10, GREATEST};
            for (int other : nobody) {
                Due.is("truly(0, " + other + ")", x.truly(0, other), -1);
            }
            Due.is("truly(2, 5)", x.truly(2, 5), -1);
            Due.is("truly(7, 0)", x.truly(7, 0), -1);
            Due.is("truly(5, 6)", x.truly(5, 6), -1);
            Due.is("truly(0, 0)", x.truly(0, 0), -1);
            Due.refusals(x, nobody.length + 4, 0, 0, 0, 0, 0);
        });
    }

    private static void trulyByKinds() {
        Due.edge("TRULY of an EARLY one: 2 more are needed in ROUND 0", () -> {
            Due.is("ROUND 0", Due.told("le5;rm0;rm0;").truly(0, 5), 0b0001111111);
            Due.is("ROUND 1", Due.told("le5;rm0;rm0;").truly(0, 6), 0b1111100000);
            Due.is("in some ROUND", Due.told("le5;rm0;rm0;o20;").truly(0, 5), 0b1111100000);
        });
        Due.edge("TRULY of a SHADED one: 3 more, as long as the one ahead is LIKED more", () -> {
            EightMinutes x = Due.told("ls5;rm0;rm0;k057;");
            Due.is("by 7 ahead: no YES", x.truly(0, 6), 0b0001111111);
            x.like(0, 6, 8);
            Due.is("by 7 ahead: YES", x.truly(0, 6), 0b1110000000);
            x.like(0, 5, 9);
            Due.is("by 9 ahead: YES from 8 on", x.truly(0, 6), 0b1100000000);
        });
        Due.edge("TRULY of a TIRED and of a WORN one: by the ROUND", () -> {
            Due.is("TIRED", Due.told("lt5;rm0;rm0;rm0;").truly(0, 7), 0b0000111111);
            Due.is("WORN", Due.told("lm0;rw3;rw3;rw3;").truly(6, 0), 0b1111110000);
            Due.is("WORN later", Due.told("lm0;rw3;rw3;rw3;").truly(7, 0), 0b1111100000);
        });
        Due.edge("TRULY of a HOPING one: by the other's LIKING of him", () -> {
            Due.is("5", Due.told("lh5;rm0;k505;").truly(0, 5), 0b1111110000);
            Due.is("4", Due.told("lh5;rm0;k504;").truly(0, 5), 0b0000111111);
        });
    }

    private static void judge(EightMinutes x, int due, int... row) {
        Due.row(x, row);
        Due.is("judge() of " + java.util.Arrays.toString(row), x.judge(), due);
    }

    private static void judge() {
        // YESES are 2 of 0, 0 of 1, 3 of 5, 1 of 6.
        String slips = "lm6;lm9;rm0;rm6;k069;k607;";
        Due.edge("JUDGED: of LEFT ones by numbers, then of RIGHT ones: -9, if all are so", () ->
            judge(Due.told(slips), -9, 2, 0, 3, 1));
        Due.edge("JUDGED: of SIDES that are not as many", () -> {
            judge(Due.told("lm6;rm0;rm6;rm0;k069;"), -9, 2, 1, 0, 1);
            judge(Due.told("lm0;lm6;lm0;rm6;k519;"), -9, 1, 0, 1, 2);
            judge(Due.told("rm0;lm0;lm0;lm0;lm0;"), 4, 1, 1, 1, 1, 14);
        });
        Due.edge("JUDGED: the first that is not so", () -> {
            EightMinutes x = Due.told(slips);
            judge(x, 0, 3, 0, 3, 1);
            judge(x, 1, 2, 1, 3, 1);
            judge(x, 2, 2, 0, 1, 1);
            judge(x, 3, 2, 0, 3, 0);
            judge(x, 1, 2, 31, 31, 31);
            judge(x, 0, 0, 0, 0, 0);
        });
        Due.edge("JUDGED: where it ends, if too short", () -> {
            EightMinutes x = Due.told(slips);
            judge(x, 0);
            judge(x, 1, 2);
            judge(x, 3, 2, 0, 3);
        });
        Due.edge("JUDGED: how many PEOPLE, if too long", () -> {
            EightMinutes x = Due.told(slips);
            judge(x, 4, 2, 0, 3, 1, 0);
            judge(x, 4, 2, 0, 3, 1, 0, 0, 0, 0, 0, 31);
            judge(Due.told("lm0;", FIVE_RIGHT), 6, 31, 1, 1, 1, 1, 1, 0);
            judge(Due.told(FIVE_LEFT, "rm0;"), 6, 1, 1, 1, 1, 1, 31, 0);
        });
        Due.edge("JUDGED: one that is not so is told ahead of too short, of too long", () -> {
            EightMinutes x = Due.told(slips);
            judge(x, 1, 2, 1, 3);
            judge(x, 3, 2, 0, 3, 3, 0);
        });
        Due.edge("JUDGED: 10 numbers of 10 PEOPLE", () -> {
            EightMinutes x = Due.told(FIVE_LEFT, FIVE_RIGHT);
            judge(x, -9, 31, 31, 31, 31, 31, 31, 31, 31, 31, 31);
            judge(x, 9, 31, 31, 31, 31, 31, 31, 31, 31, 31, 30);
            judge(x, 9, 31, 31, 31, 31, 31, 31, 31, 31, 31);
        });
        Due.edge("JUDGED: of nobody, of one SIDE", () -> {
            judge(new EightMinutes(), -9);
            judge(new EightMinutes(), 0, 0);
            judge(Due.told("lm0;lm0;"), -9, 0, 0);
            judge(Due.told("rm0;rm0;"), -9, 0, 0);
            judge(Due.told("rm0;rm0;"), 1, 0, 1);
        });
        Due.edge("JUDGED: (whichever it answers, the ROW has none then)", () -> {
            EightMinutes x = Due.told(slips);
            int[][] rows = {{2, 0, 3, 1}, {3, 0, 3, 1}, {2, 0}, {2, 0, 3, 1, 0}, {}};
            for (int[] row : rows) {
                Due.row(x, row);
                x.judge();
                Due.is("in the ROW", x.count(7), 0);
            }
            Due.refusals(x, 0, 0, 0, 0, 0, 0);
        });
    }

    private static void clear() {
        Due.edge("clear: of a ROW that has none", () -> {
            EightMinutes x = new EightMinutes();
            Due.is("clear()", x.clear(), 0);
            Due.is("in the ROW", x.count(7), 0);
        });
        Due.edge("clear: of a full ROW, which can be filled again", () -> {
            EightMinutes x = new EightMinutes();
            Due.row(x, 1, 2, 3, 4, 5, 6, 7, 8, 9, 10);
            Due.is("clear()", x.clear(), 10);
            Due.is("in the ROW", x.count(7), 0);
            for (int i = 1; i <= 10; i++) {
                Due.is("row " + i, x.row(0), i);
            }
        });
    }

    private static void lots() {
        Due.edge("LOTS: n times (1 .. 20)", () -> {
            EightMinutes x = Due.told("lm0;rm0;");
            for (int n = 1; n <= 20; n++) {
                Due.is("lots(" + n + ", 5)", x.lots(n, 5), n);
            }
        });
        Due.edge("lots: -4", () -> {
            EightMinutes x = Due.told("lm0;rm0;");
            Due.is("lots(0, 5)", x.lots(0, 5), -4);
            Due.is("lots(-1, 5)", x.lots(-1, 5), -4);
            Due.is("lots(least, 5)", x.lots(LEAST, 5), -4);
            Due.refusals(x, 0, 0, 0, 3, 0, 0);
        });
        Due.edge("lots: -6 20", () -> {
            EightMinutes x = Due.told("lm0;rm0;");
            Due.is("lots(21, 5)", x.lots(21, 5), -6);
            Due.is("lots(greatest, 5)", x.lots(GREATEST, 5), -6);
            Due.refusals(x, 0, 0, 0, 0, 0, 2);
        });
        Due.edge("LOTS: of nobody, of one SIDE", () -> {
            Due.is("nobody", new EightMinutes().lots(20, 5), 0);
            Due.is("LEFT", Due.told(FIVE_LEFT).lots(20, 5), 0);
            Due.is("RIGHT", Due.told(FIVE_RIGHT).lots(20, 5), 0);
        });
        Due.edge("LOTS: PAIRS of all together: as many as can be", () ->
            Due.is("lots(20, 5)", Due.told(FIVE_LEFT, FIVE_RIGHT).lots(20, 5), 500));
        Due.edge("LOTS: PAIRS by the LAW", () -> {
            EightMinutes x = Due.told(FIVE_LEFT, FIVE_RIGHT);
            x.law(3);
            Due.is("by ranks", x.lots(20, 5), 100);
            EightMinutes one = Due.told("lm0;", FIVE_RIGHT, "w1;");
            Due.is("THREE", one.lots(20, 5), 60);
            one.law(2);
            Due.is("ONE", one.lots(20, 5), 20);
        });
        Due.edge("LOTS: PAIRS by the LAW and by LIKINGS drawn", () -> {
            for (int seed = -20; seed < 20; seed++) {
                int[] drawn = drawn(seed, 8);
                int pairs = 0;
                for (int i = 0; i < 4; i++) {
                    int left = i / 2;
                    int right = i % 2;
                    boolean leftLikesMost = right == (drawn[2 * left + 1] > drawn[2 * left] ? 1 : 0);
                    boolean rightLikesMost = left == (drawn[4 + 2 * right + 1] > drawn[4 + 2 * right] ? 1 : 0);
                    pairs += leftLikesMost && rightLikesMost ? 1 : 0;
                }
                Due.is("lots(1, " + seed + ") by ONE", Due.told("lm0;lm0;rm0;rm0;w2;").lots(1, seed), pairs);
            }
        });
        Due.edge("LOTS: (in mind)", () -> {
            EightMinutes x = Due.told("lw5;ls5;rh5;rm5;rt5;", "k053;k507;w2;o21;");
            String ahead = Due.look(x);
            x.lots(20, -5);
            Due.holds("all is as it was: " + ahead, Due.look(x).equals(ahead));
        });
    }

    private static int next(int z) {
        return (int) (((long) z * 1664525L + 1013904223L) & 0xffffffffL);
    }

    /** The DRAW below 10 by a z that has become so. */
    private static int draw(int z) {
        long withoutSign = z < 0 ? z + (1L << 31) : z;
        return (int) (withoutSign / 256 % 10);
    }

    /** So many DRAWS from a seed on. */
    private static int[] drawn(int seed, int many) {
        int[] drawn = new int[many];
        int z = seed;
        for (int i = 0; i < many; i++) {
            z = next(z);
            drawn[i] = draw(z);
        }
        return drawn;
    }

    /** Of one LEFT and one RIGHT one: the DRAWS are the BARS up to which they are a PAIR. */
    private static void twoDraws(int seed, int left, int right) {
        for (int bar = 0; bar <= 9; bar++) {
            Due.is("lots(1, " + seed + ") of BARS " + bar + ", 0", Due.told("lm" + bar + ";rm0;").lots(1, seed), bar <= left ? 1 : 0);
            Due.is("lots(1, " + seed + ") of BARS 0, " + bar, Due.told("lm0;rm" + bar + ";").lots(1, seed), bar <= right ? 1 : 0);
        }
    }

    private static void draws() {
        // 1013904223 by 256 is 3960563, cut; then z becomes 1196435762, by 256 4673577.
        Due.edge("A DRAW: z becomes z times 1664525 and 1013904223", () -> twoDraws(0, 3, 7));
        Due.edge("A DRAW: (an int): beyond the greatest and below the least", () -> {
            int[] seeds = {1, 2, -1, -2, 1289, 99999, GREATEST, GREATEST - 1, LEAST, LEAST + 1};
            for (int seed : seeds) {
                twoDraws(seed, draw(next(seed)), draw(next(next(seed))));
            }
        });
        Due.edge("A DRAW: (z without its sign's bit by 256, cut)", () -> {
            int below = 0;
            for (int seed = 700; seed < 720; seed++) {
                below += next(seed) < 0 ? 1 : 0;
                twoDraws(seed, draw(next(seed)), draw(next(next(seed))));
            }
            Due.is("z below 0", below, 20);
        });
        Due.edge("LOTS: LIKINGS of LEFT ones by numbers, then of RIGHT ones (each of all of the other SIDE that there are)", () -> {
            for (int seed = -20; seed < 20; seed++) {
                int[] drawn = drawn(seed, 12);
                int pairs = 0;
                for (int i = 0; i < 6; i++) {
                    int left = i / 3;
                    int right = i % 3;
                    boolean leftSays = drawn[i] >= 4 + left;
                    boolean rightSays = drawn[6 + 2 * right + left] >= 3 + right;
                    pairs += leftSays && rightSays ? 1 : 0;
                }
                Due.is("lots(1, " + seed + ")", Due.told("lm4;lm5;rm3;rm4;rm5;").lots(1, seed), pairs);
            }
        });
        Due.edge("LOTS: z goes on from time to time", () -> {
            EightMinutes x = Due.told("lm5;rm5;");
            int z = 77;
            int pairs = 0;
            for (int n = 1; n <= 20; n++) {
                pairs += x.lots(1, z);
                Due.is("lots(" + n + ", 77)", x.lots(n, 77), pairs);
                z = next(next(z));
            }
        });
    }

    private static void image() {
        Due.edge("THE IMAGE of nobody", () -> {
            EightMinutes x = new EightMinutes();
            Due.is("image()", x.image(), 0);
            Due.tell(x, "lm0;rm0;");
            Due.is("on()", x.on(), 0);
            Due.is("LEFT and RIGHT", x.count(0) + x.count(1), 0);
            Due.is("ROUNDS", x.count(2), 0);
            Due.is("image() again", x.image(), 0);
        });
        Due.edge("THE IMAGE of all whom there is room for", () -> {
            EightMinutes x = Due.told(FIVE_LEFT, FIVE_RIGHT);
            Due.is("image()", x.image(), 10);
            Due.is("on()", x.on(), 10);
        });
        Due.edge("THE IMAGE is taken once more: the one ahead is no more", () -> {
            EightMinutes x = Due.told("w1;");
            x.image();
            x.law(2);
            x.image();
            x.law(3);
            x.on();
            Due.is("LAW", x.count(5), 2);
        });
        Due.edge("THE IMAGE stays as it is, whatever is told behind it", () -> {
            EightMinutes x = Due.told("lm0;rm0;k053;o23;w1;");
            x.image();
            String due = Due.look(x);
            for (int i = 0; i < 2; i++) {
                Due.tell(x, "lw9;re9;k058;k502;o44;w3;");
                x.like(5, 0, 9);
                x.on();
                Due.holds("ON from it all is as then: " + due, Due.look(x).equals(due));
            }
        });
    }

    private static void on() {
        Due.edge("on: -3 there is none", () -> {
            EightMinutes x = Due.told("lm0;");
            Due.is("on()", x.on(), -3);
            Due.is("LEFT", x.count(0), 1);
            Due.refusals(x, 0, 0, 1, 0, 0, 0);
        });
        Due.edge("ON from it all is as then: PEOPLE, LIKINGS, STEP, SHIFT, LAW", () -> {
            EightMinutes x = Due.told("le3;rw4;rs5;", "k052;k607;o31;w2;");
            x.image();
            String due = Due.look(x);
            Due.tell(x, "lm0;lm0;rm0;k059;k600;o14;w3;");
            Due.holds("all is another", !Due.look(x).equals(due));
            Due.is("on()", x.on(), 3);
            Due.holds("all is as then: " + due, Due.look(x).equals(due));
        });
        Due.edge("(not the ROW): ON leaves it", () -> {
            EightMinutes x = Due.told("lm0;lm0;rm0;rm0;");
            Due.row(x, 0);
            x.image();
            x.row(1);
            x.on();
            Due.is("in the ROW", x.count(7), 2);
            Due.is("rather()", x.rather(), -9);
        });
        Due.edge("(not letters): ON leaves them", () -> {
            EightMinutes x = new EightMinutes();
            Due.write(x, "w");
            x.image();
            Due.write(x, "2");
            x.on();
            Due.is("letters", x.count(8), 2);
            Due.is("the last", x.letter(';'), 3);
            Due.is("evening()", x.evening(), 1);
            Due.is("LAW", x.count(5), 2);
        });
        Due.edge("(not REFUSALS): ON leaves them", () -> {
            EightMinutes x = new EightMinutes();
            x.meets(0, 0);
            x.image();
            x.meets(0, 0);
            x.law(9);
            x.on();
            Due.refusals(x, 2, 1, 0, 0, 0, 0);
        });
    }

    private static void count() {
        Due.edge("count: -9 for another what", () -> {
            EightMinutes x = Due.told("lm0;rm0;");
            int[] others = {LEAST, -9, -1, 9, 10, 17, 18, GREATEST};
            for (int what : others) {
                Due.is("count(" + what + ")", x.count(what), -9);
            }
            Due.refusals(x, 0, 0, 0, 0, 0, 0);
        });
        Due.edge("count: 0 LEFT to 8 letters, each another", () -> {
            EightMinutes x = Due.told("lm0;rm0;rm0;rm0;rm0;o42;w3;");
            Due.row(x, 1, 1, 1, 1, 1, 1);
            Due.write(x, "lm0;lm0");
            int[] due = {1, 4, 4, 4, 2, 3, 12, 6, 7};
            for (int what = 0; what < due.length; what++) {
                Due.is("count(" + what + ")", x.count(what), due[what]);
            }
        });
        Due.edge("count: 11 .. 16 REFUSALS -1 .. -6, each by itself", () -> {
            EightMinutes x = new EightMinutes();
            int[] times = {1, 2, 3, 4, 0, 5};
            for (int i = 0; i < times[0]; i++) {
                x.liking(0, 5);
            }
            for (int i = 0; i < times[1]; i++) {
                x.glad(0, 2);
            }
            for (int i = 0; i < times[2]; i++) {
                x.on();
            }
            for (int i = 0; i < times[3]; i++) {
                x.row(-1);
            }
            for (int i = 0; i < times[5]; i++) {
                x.row(32);
            }
            Due.refusals(x, times);
        });
    }

    /** A call that is refused, and what it answers. */
    private interface Call {
        int on(EightMinutes x);
    }

    private static void refused(String call, int due, Call refused) {
        EightMinutes x = Due.told("lh3;rs4;rm5;", "k052;k607;o31;w2;");
        Due.row(x, 4, 4);
        Due.write(x, "w");
        String ahead = Due.look(x);
        Due.is(call, refused.on(x), due);
        Due.is(call + " is counted", x.count(due == 1000000001 ? 11 : 10 - due), 1);
        Due.is(call + " is counted once", x.count(11) + x.count(12) + x.count(13) + x.count(14) + x.count(15) + x.count(16), 1);
        Due.holds(call + " changes nothing", Due.look(x).equals(ahead));
    }

    private static void refusals() {
        Due.edge("REFUSALS: nothing changes but how many there were", () -> {
            refused("letter(-1)", -4, x -> x.letter(-1));
            refused("letter(256)", -6, x -> x.letter(256));
            refused("person(1, 0)", -1, x -> x.person(1, 0));
            refused("person(0, 3)", -2, x -> x.person(0, 3));
            refused("liking(0, 0)", -1, x -> x.liking(0, 0));
            refused("like(0, 7, 1)", -1, x -> x.like(0, 7, 1));
            refused("like(0, 5, -1)", -4, x -> x.like(0, 5, -1));
            refused("like(0, 5, 10)", -6, x -> x.like(0, 5, 10));
            refused("order(0, 1)", -4, x -> x.order(0, 1));
            refused("order(1, 5)", -6, x -> x.order(1, 5));
            refused("law(4)", -2, x -> x.law(4));
            refused("meets(0, 2)", -1, x -> x.meets(0, 2));
            refused("felt(0, 2)", 1000000001, x -> x.felt(0, 2));
            refused("yeses(7, 0)", -1, x -> x.yeses(7, 0));
            refused("yeses(0, 2)", -2, x -> x.yeses(0, 2));
            refused("pairs(7)", -1, x -> x.pairs(7));
            refused("glad(4, 0)", -2, x -> x.glad(4, 0));
            refused("ranks(7)", -1, x -> x.ranks(7));
            refused("asked(7)", -1, x -> x.asked(7));
            refused("row(-1)", -4, x -> x.row(-1));
            refused("row(32)", -6, x -> x.row(32));
            refused("rather()", -3, x -> x.rather());
            refused("truly(0, 7)", -1, x -> x.truly(0, 7));
            refused("lots(0, 1)", -4, x -> x.lots(0, 1));
            refused("lots(21, 1)", -6, x -> x.lots(21, 1));
            refused("on()", -3, x -> x.on());
        });
        Due.edge("REFUSALS: a call that is none is not counted", () -> {
            EightMinutes x = Due.told("lm0;rm0;rm0;");
            x.shaded();
            x.bestOrder();
            x.firm();
            x.judge();
            x.clear();
            x.pairs(-1);
            x.felt(5, 1);
            x.meets(5, 1);
            x.ranks(6);
            x.count(9);
            x.evening();
            x.image();
            x.on();
            Due.refusals(x, 0, 0, 0, 0, 0, 0);
        });
    }
}
