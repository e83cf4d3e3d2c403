/** For each promise: ordinary inputs, the edges that the document names, and wrong inputs. */
public final class PromiseTests {
    /** Two and two who each side would pair otherwise: LEFT ones like 0-5, 1-6, RIGHT ones 5-1, 6-0. */
    private static final String CROSSED = "lm0;lm0;rm0;rm0;k059;k061;k169;k151;k519;k501;k609;k611;";

    public static void main(String[] args) {
        newObject();
        letter();
        eveningBadLetters();
        eveningBadStatements();
        eveningComes();
        person();
        liking();
        like();
        order();
        law();
        meets();
        felt();
        feltByKinds();
        yeses();
        pairs();
        pairsByLaws();
        glad();
        shaded();
        bestOrder();
        ranks();
        asked();
        firm();
        row();
        rather();
        truly();
        judge();
        clear();
        lots();
        image();
        on();
        count();
        Due.end();
    }

    private static void refusals(String where, EightMinutes x, int nobody, int other, int state, int below, int room) {
        Due.is(where + ": NOBODY", x.count(11), nobody);
        Due.is(where + ": OTHER", x.count(12), other);
        Due.is(where + ": STATE", x.count(13), state);
        Due.is(where + ": BELOW", x.count(14), below);
        Due.is(where + ": -5", x.count(15), 0);
        Due.is(where + ": ROOM", x.count(16), room);
    }

    private static void row(EightMinutes x, int... numbers) {
        x.clear();
        for (int number : numbers) {
            x.row(number);
        }
    }

    // Promise 1
    private static void newObject() {
        EightMinutes x = new EightMinutes();
        int[] due = {0, 0, 0, 1, 0, 0, 0, 0, 0};
        for (int what = 0; what < due.length; what++) {
            Due.is("new: count(" + what + ")", x.count(what), due[what]);
        }
        refusals("new", x, 0, 0, 0, 0, 0);
        for (int one = 0; one < 10; one++) {
            Due.is("new: person", x.person(one, 0), -1);
        }
        Due.is("new: on", x.on(), -3);
    }

    // Promise 2
    private static void letter() {
        EightMinutes x = new EightMinutes();
        Due.is("letter(0)", x.letter(0), 1);
        Due.is("letter(255)", x.letter(255), 2);
        Due.is("letter(256)", x.letter(256), -6);
        Due.is("letter(-1)", x.letter(-1), -4);
        Due.is("letter(least)", x.letter(Integer.MIN_VALUE), -4);
        Due.is("letter(greatest)", x.letter(Integer.MAX_VALUE), -6);
        for (int i = 3; i <= 96; i++) {
            Due.is("letter " + i, x.letter('w'), i);
        }
        Due.is("letter 97", x.letter('w'), -6);
        Due.is("letter 97, below", x.letter(-1), -4);
        Due.is("letters", x.count(8), 96);
        refusals("letter", x, 0, 0, 0, 3, 3);
    }

    // Promise 3
    private static void eveningBadLetters() {
        String[] texts = {"", "x", ";", "L", "lm5", "l", "lm", "lq5;", "lM5;", "lmm;", "lm:;", "lm/;", "lm55;", "lm5;;",
            "rx0;", "r;", "k", "k0", "k05", "k051", "k05;", "k0x1;", "kx51;", "k05x;", "k0512;", "o", "o1", "o10", "o1;",
            "o100;", "ox0;", "w", "w0", "w00;", "w;", "w4", "lm5;rm5", "w9;x", "lm5;lm5;k010;k", "w0; w0;"};
        int[] places = {0, 0, 0, 0, 3, 1, 2, 1, 1, 2, 2, 2, 3, 4,
            1, 1, 1, 2, 3, 4, 3, 2, 1, 3, 4, 1, 2, 3, 2,
            3, 1, 1, 2, 2, 1, 2, 7, 3, 14, 3};
        Due.is("as many texts", texts.length, places.length);
        for (int i = 0; i < texts.length; i++) {
            EightMinutes x = new EightMinutes();
            Due.is("evening of '" + texts[i] + "'", Due.tell(x, texts[i]), -1000 - places[i]);
            Due.is("no letters are left", x.count(8), 0);
            Due.is("nobody has come", x.count(0) + x.count(1), 0);
            refusals("a fault is not counted", x, 0, 0, 0, 0, 0);
        }
        for (int c = 0; c < 256; c++) {
            EightMinutes x = new EightMinutes();
            x.letter(c);
            Due.is("evening of " + c, x.evening(), "lrkow".indexOf(c) >= 0 ? -1001 : -1000);
            x.letter('l');
            x.letter(c);
            Due.is("evening of l and " + c, x.evening(), "metshw".indexOf(c) >= 0 ? -1002 : -1001);
            x.letter('w');
            x.letter(c);
            Due.is("evening of w and " + c, x.evening(), c >= '0' && c <= '9' ? -1002 : -1001);
        }
        EightMinutes full = new EightMinutes();
        Due.is("96 letters, the last lacks", Due.tell(full, "w0;".repeat(31) + "lm0"), -1096);
    }

    private static void eveningBadStatements() {
        String[] texts = {"w4;", "w9;", "o00;", "o50;", "o90;", "o15;", "o19;", "k050;", "lm0;k050;", "rm0;k050;",
            "lm0;rm0;k000;", "lm0;lm0;k010;", "rm0;rm0;k560;", "lm0;rm0;k061;", "lm0;rm0;k150;", "lm0;rm0;k510;",
            "lm0;k050;rm0;", "w1;o50;", "w3;w4;w5;", "lm0;lm0;lm0;lm0;lm0;lm0;", "rm0;rm0;rm0;rm0;rm0;rm0;", "w0;o44;k994;"};
        int[] places = {0, 0, 0, 0, 0, 0, 0, 0, 4, 4,
            8, 8, 8, 8, 8, 8,
            4, 3, 3, 20, 20, 7};
        Due.is("as many texts", texts.length, places.length);
        for (int i = 0; i < texts.length; i++) {
            EightMinutes x = new EightMinutes();
            Due.is("evening of '" + texts[i] + "'", Due.tell(x, texts[i]), -2000 - places[i]);
            Due.is("no letters are left", x.count(8), 0);
            Due.is("nothing has come", x.count(0) + x.count(1) + x.count(4) + x.count(5), 0);
            Due.is("STEP is as it was", x.count(3), 1);
            refusals("a fault is not counted", x, 0, 0, 0, 0, 0);
        }
        EightMinutes x = Due.told("lm5;rm5;");
        Due.is("likings stay", Due.tell(x, "k051;w2;o33;k061;"), -2012);
        Due.is("liking", x.liking(0, 5), 5);
        EightMinutes full = Due.told("lm5;lm5;lm5;lm5;lm5;", "rm5;rm5;rm5;rm5;rm5;");
        Due.is("a sixth LEFT one behind an evening", Due.tell(full, "w1;lm5;"), -2003);
        Due.is("a sixth RIGHT one behind an evening", Due.tell(full, "rm5;"), -2000);
    }

    private static void eveningComes() {
        EightMinutes x = new EightMinutes();
        Due.is("evening of all", Due.tell(x, "le7;rt0;rw9;k064;k608;k063;o42;w3;"), 8);
        Due.is("LEFT", x.count(0), 1);
        Due.is("RIGHT", x.count(1), 2);
        Due.is("STEP", x.count(3), 4);
        Due.is("SHIFT", x.count(4), 2);
        Due.is("LAW", x.count(5), 3);
        Due.is("liking 0 6, the last", x.liking(0, 6), 3);
        Due.is("liking 6 0", x.liking(6, 0), 8);
        Due.is("liking 0 5", x.liking(0, 5), 5);
        Due.is("letters", x.count(8), 0);
        Due.is("letters are no more", x.evening(), -1000);
        Due.is("an evening goes on from another", Due.tell(x, "lh1;k155;k152;"), 3);
        Due.is("liking 1 5", x.liking(1, 5), 2);
        Due.is("liking 0 6 stays", x.liking(0, 6), 3);
        Due.is("32 statements", Due.tell(x, "w1;".repeat(32)), 32);
        Due.is("greatest order", Due.tell(x, "o44;"), 1);
        Due.is("least order", Due.tell(x, "o10;"), 1);
        Due.is("order", x.order(1, 0), 10);
    }

    // Promise 4
    private static void person() {
        EightMinutes x = Due.told("lm0;le1;lt2;ls3;lh4;", "rw9;rh8;");
        for (int one = 0; one < 5; one++) {
            Due.is("KIND of " + one, x.person(one, 0), one);
            Due.is("BAR of " + one, x.person(one, 1), one);
        }
        Due.is("KIND of 5", x.person(5, 0), 5);
        Due.is("BAR of 5", x.person(5, 1), 9);
        Due.is("GAPS of 0: of 5 ROUNDS 2 with somebody", x.person(0, 2), 3);
        Due.is("GAPS of 5", x.person(5, 2), 0);
        Due.is("person(7, 0)", x.person(7, 0), -1);
        Due.is("person(7, 9)", x.person(7, 9), -1);
        Due.is("person(-1, 0)", x.person(-1, 0), -1);
        Due.is("person(10, 0)", x.person(10, 0), -1);
        Due.is("person(least, 0)", x.person(Integer.MIN_VALUE, 0), -1);
        Due.is("person(greatest, 0)", x.person(Integer.MAX_VALUE, 0), -1);
        Due.is("person(0, 3)", x.person(0, 3), -2);
        Due.is("person(0, -1)", x.person(0, -1), -2);
        refusals("person", x, 6, 2, 0, 0, 0);
        x.order(4, 0);
        Due.is("GAPS by STEP 4", x.person(0, 2), 3);
        EightMinutes same = Due.told("lm0;rm0;rm0;o20;");
        Due.is("GAPS of one who meets twice the same", same.person(0, 2), 0);
        Due.is("GAPS of one never met", same.person(6, 2), 2);
    }

    // Promise 5
    private static void liking() {
        EightMinutes x = Due.told("lm0;rm0;k059;k500;");
        Due.is("liking(0, 5)", x.liking(0, 5), 9);
        Due.is("liking(5, 0)", x.liking(5, 0), 0);
        Due.tell(x, "lm0;rm0;");
        Due.is("from the new", x.liking(1, 5), 5);
        Due.is("of the new", x.liking(5, 1), 5);
        Due.is("of the new", x.liking(0, 6), 5);
        Due.is("of one SIDE", x.liking(0, 1), -1);
        Due.is("of one SIDE", x.liking(5, 6), -1);
        Due.is("of himself", x.liking(5, 5), -1);
        Due.is("of nobody", x.liking(0, 7), -1);
        Due.is("of nobody", x.liking(0, 10), -1);
        Due.is("of nobody", x.liking(0, -1), -1);
        Due.is("from nobody", x.liking(2, 5), -1);
        Due.is("from nobody", x.liking(-5, 5), -1);
        refusals("liking", x, 8, 0, 0, 0, 0);
    }

    // Promise 6
    private static void like() {
        EightMinutes x = Due.told("lm0;rm0;");
        Due.is("like(0, 5, 9)", x.like(0, 5, 9), 5);
        Due.is("like(0, 5, 0)", x.like(0, 5, 0), 9);
        Due.is("like(5, 0, 3)", x.like(5, 0, 3), 5);
        Due.is("liking(0, 5)", x.liking(0, 5), 0);
        Due.is("liking(5, 0)", x.liking(5, 0), 3);
        Due.is("like(0, 5, 10)", x.like(0, 5, 10), -6);
        Due.is("like(0, 5, -1)", x.like(0, 5, -1), -4);
        Due.is("like(0, 0, -1)", x.like(0, 0, -1), -1);
        Due.is("like(0, 6, 10)", x.like(0, 6, 10), -1);
        Due.is("like(1, 5, 1)", x.like(1, 5, 1), -1);
        Due.is("nothing has changed", x.liking(0, 5), 0);
        refusals("like", x, 3, 0, 0, 1, 1);
    }

    // Promise 7
    private static void order() {
        EightMinutes x = new EightMinutes();
        Due.is("order(4, 4)", x.order(4, 4), 10);
        Due.is("order(1, 0)", x.order(1, 0), 44);
        Due.is("order(2, 3)", x.order(2, 3), 10);
        Due.is("order(0, 0)", x.order(0, 0), -4);
        Due.is("order(5, 0)", x.order(5, 0), -6);
        Due.is("order(1, -1)", x.order(1, -1), -4);
        Due.is("order(1, 5)", x.order(1, 5), -6);
        Due.is("order(5, -1): -4 is told first", x.order(5, -1), -4);
        Due.is("order(0, 5): -4 is told first", x.order(0, 5), -4);
        Due.is("order stays", x.order(1, 1), 23);
        refusals("order", x, 0, 0, 0, 4, 2);
    }

    // Promise 8
    private static void law() {
        EightMinutes x = new EightMinutes();
        Due.is("law(3)", x.law(3), 0);
        Due.is("law(0)", x.law(0), 3);
        Due.is("law(2)", x.law(2), 0);
        Due.is("law(4)", x.law(4), -2);
        Due.is("law(-1)", x.law(-1), -2);
        Due.is("law(1)", x.law(1), 2);
        refusals("law", x, 0, 2, 0, 0, 0);
    }

    // Promise 9
    private static void meets() {
        EightMinutes x = Due.told("lm0;lm0;rm0;rm0;rm0;");
        int[][] plain = {{5, 6, 7}, {6, 7, 5}};
        int[][] turned = {{0, -9, 1}, {1, 0, -9}, {-9, 1, 0}};
        for (int round = 0; round < 3; round++) {
            for (int left = 0; left < 2; left++) {
                Due.is("meets(" + left + ", " + round + ")", x.meets(left, round), plain[left][round]);
            }
            for (int right = 0; right < 3; right++) {
                Due.is("meets(5 + " + right + ", " + round + ")", x.meets(5 + right, round), turned[right][round]);
            }
        }
        x.order(2, 4);
        int[] shifted = {6, 5, 7};
        for (int round = 0; round < 3; round++) {
            Due.is("by order 2, 4: meets(0, " + round + ")", x.meets(0, round), shifted[round]);
        }
        Due.is("no ROUND 3", x.meets(0, 3), -1);
        Due.is("no ROUND -1", x.meets(0, -1), -1);
        Due.is("nobody", x.meets(2, 0), -1);
        Due.is("nobody", x.meets(8, 0), -1);
        Due.is("nobody", x.meets(-1, 0), -1);
        refusals("meets", x, 5, 0, 0, 0, 0);
        EightMinutes most = Due.told("lm0;lm0;lm0;", "rm0;o13;");
        Due.is("a LEFT one ALONE", most.meets(1, 0), -9);
        Due.is("a LEFT one ALONE", most.meets(0, 1), -9);
        Due.is("l and SHIFT modulo ROUNDS", most.meets(0, 0), 5);
        Due.is("RIGHT to LEFT", most.meets(5, 1), 2);
    }

    // Promise 10
    private static void felt() {
        EightMinutes x = Due.told("lm0;rm0;rm0;k052;k064;");
        Due.is("felt(0, 0)", x.felt(0, 0), 2);
        Due.is("felt(0, 1)", x.felt(0, 1), 4);
        Due.is("felt(5, 0)", x.felt(5, 0), 5);
        Due.is("ALONE", x.felt(5, 1), 999);
        Due.is("no ROUND 2", x.felt(0, 2), 1000000001);
        Due.is("no ROUND -1", x.felt(0, -1), 1000000001);
        Due.is("nobody", x.felt(1, 0), 1000000001);
        Due.is("nobody", x.felt(10, 0), 1000000001);
        refusals("felt", x, 4, 0, 0, 0, 0);
    }

    private static void feltOfFive(String kind, int[] due) {
        EightMinutes x = Due.told("l" + kind + "0;rm0;rm0;rm0;rm0;rm0;", "k054;k067;k076;k086;k090;", "k505;k604;k709;k800;k906;");
        for (int round = 0; round < due.length; round++) {
            Due.is("felt by " + kind + " in ROUND " + round, x.felt(0, round), due[round]);
        }
    }

    private static void feltByKinds() {
        feltOfFive("m", new int[] {4, 7, 6, 6, 0});
        feltOfFive("e", new int[] {2, 7, 6, 6, 0});
        feltOfFive("t", new int[] {4, 7, 5, 5, -2});
        feltOfFive("s", new int[] {4, 7, 3, 6, -3});
        feltOfFive("h", new int[] {5, 6, 7, 5, 1});
        feltOfFive("w", new int[] {4, 7, 5, 5, -2});
        EightMinutes x = Due.told("lm0;lm0;rw0;rs0;rw0;", "k509;k512;k619;k602;");
        Due.is("WORN, ROUND 0", x.felt(5, 0), 9);
        Due.is("WORN, ROUND 2 behind one ALONE", x.felt(5, 2), 0);
        Due.is("WORN, ROUND 1 behind one ALONE", x.felt(7, 1), 4);
        Due.is("WORN, ROUND 2 behind one with somebody", x.felt(7, 2), 4);
        Due.is("SHADED behind one liked more", x.felt(6, 1), -1);
        x.order(1, 1);
        // Now 6 meets 0 in ROUND 0, is ALONE in ROUND 1 and meets 1 in ROUND 2.
        x.like(6, 0, 9);
        x.like(6, 1, 2);
        Due.is("6 meets 0", x.meets(6, 0), 0);
        Due.is("6 ALONE", x.meets(6, 1), -9);
        Due.is("SHADED behind one ALONE", x.felt(6, 2), 2);
        EightMinutes again = Due.told("le0;rm0;rm0;o20;");
        Due.is("EARLY in ROUND 0", again.felt(0, 0), 3);
        Due.is("EARLY again", again.felt(0, 1), 5);
    }

    // Promise 11
    private static void yeses() {
        EightMinutes x = Due.told("lm5;lm6;rm0;rm9;rm5;", "k055;k064;k076;k156;k169;");
        Due.is("yeses(0, 0)", x.yeses(0, 0), 5);
        Due.is("yeses(1, 0)", x.yeses(1, 0), 3);
        Due.is("yeses(5, 0)", x.yeses(5, 0), 3);
        Due.is("yeses(6, 0)", x.yeses(6, 0), 0);
        Due.is("yeses(7, 0)", x.yeses(7, 0), 3);
        Due.is("yeses(0, 1)", x.yeses(0, 1), 5);
        Due.is("yeses(1, 1)", x.yeses(1, 1), 5);
        Due.is("yeses(5, 1)", x.yeses(5, 1), 3);
        Due.is("yeses(6, 1)", x.yeses(6, 1), 2);
        Due.is("yeses(7, 1)", x.yeses(7, 1), 1);
        Due.is("nobody", x.yeses(2, 0), -1);
        Due.is("nobody", x.yeses(8, 2), -1);
        Due.is("another what", x.yeses(0, 2), -2);
        Due.is("another what", x.yeses(0, -1), -2);
        refusals("yeses", x, 2, 2, 0, 0, 0);
        x.order(3, 0);
        Due.is("only to those whom he MEETS", x.yeses(0, 0), 1);
        Due.is("only to those whom he MEETS", x.yeses(1, 0), 2);
        Due.is("EARLY, met again: in some ROUND", Due.told("le5;rm0;rm0;o20;").yeses(0, 0), 1);
        Due.is("EARLY, met once", Due.told("le5;rm0;rm0;o10;").yeses(0, 0), 2);
        Due.is("below 0 is below BAR 0", Due.told("le0;rm0;k051;").yeses(0, 0), 0);
    }

    // Promise 12
    private static void pairs() {
        EightMinutes x = Due.told("lm5;lm6;rm0;rm9;rm5;", "k055;k064;k076;k156;k169;");
        Due.is("pairs(-1)", x.pairs(-1), 3);
        Due.is("pairs(0)", x.pairs(0), 5);
        Due.is("pairs(1)", x.pairs(1), 1);
        Due.is("pairs(5)", x.pairs(5), 3);
        Due.is("pairs(6)", x.pairs(6), 0);
        Due.is("pairs(7)", x.pairs(7), 1);
        Due.is("pairs(2)", x.pairs(2), -1);
        Due.is("pairs(-2)", x.pairs(-2), -1);
        Due.is("pairs(8)", x.pairs(8), -1);
        Due.is("pairs(10)", x.pairs(10), -1);
        refusals("pairs", x, 4, 0, 0, 0, 0);
        Due.is("nobody, no pairs", new EightMinutes().pairs(-1), 0);
    }

    private static void pairsByLaws() {
        EightMinutes x = Due.told("lm0;rm0;rm0;rm0;rm0;rm0;", "k053;k069;k073;k081;k093;");
        int[] due = {31, 7, 2, 2};
        for (int law = 0; law < due.length; law++) {
            x.law(law);
            Due.is("pairs(0) by LAW " + law, x.pairs(0), due[law]);
            Due.is("pairs(-1) by LAW " + law, x.pairs(-1), Integer.bitCount(due[law]));
            Due.is("pairs(9) by LAW " + law, x.pairs(9), law == 0 ? 1 : 0);
        }
        EightMinutes y = Due.told("lm0;lm0;lm0;lm0;lm0;", "rm4;k504;k519;k529;k534;k547;");
        int[] dueOfRight = {31, 22, 2, 2};
        for (int law = 0; law < dueOfRight.length; law++) {
            y.law(law);
            Due.is("pairs(5) by LAW " + law, y.pairs(5), dueOfRight[law]);
        }
        // By ranks 0 gets 5, to whom he says no: so they are no pair, though 0 and 6 both say yes.
        EightMinutes z = Due.told("le5;lm0;rm0;rm0;", "k056;k065;");
        Due.is("0 gets 5", z.ranks(0), 5);
        Due.is("0 says yes to 6 only", z.yeses(0, 0), 2);
        z.law(3);
        Due.is("no pair by ranks", z.pairs(0), 0);
        Due.is("the others by ranks", z.pairs(1), 2);
        z.law(2);
        Due.is("ONE of those to whom he says yes", z.pairs(0), 2);
        z.like(6, 1, 6);
        Due.is("6 likes 1 more", z.pairs(0), 0);
        z.like(6, 0, 6);
        Due.is("6 likes both most: the least", z.pairs(0), 2);
        EightMinutes crossed = Due.told(CROSSED, "w3;");
        Due.is("LEFT ask by LAW 3", crossed.pairs(0), 1);
        Due.is("LEFT ask by LAW 3", crossed.pairs(6), 2);
    }

    // Promise 13
    private static void glad() {
        EightMinutes x = Due.told("lm0;rm0;rm0;rm0;rm0;rm0;", "k053;k069;k073;k081;k093;", "k501;k602;k703;k804;k905;");
        int[] many = {5, 3, 1, 1};
        int[] glad = {34, 21, 11, 11};
        x.law(2);
        for (int law = 0; law < many.length; law++) {
            Due.is("glad(" + law + ", 0)", x.glad(law, 0), many[law]);
            Due.is("glad(" + law + ", 1)", x.glad(law, 1), glad[law]);
        }
        Due.is("LAW stays", x.count(5), 2);
        Due.is("glad(4, 0)", x.glad(4, 0), -2);
        Due.is("glad(-1, 0)", x.glad(-1, 0), -2);
        Due.is("glad(0, 2)", x.glad(0, 2), -2);
        Due.is("glad(0, -1)", x.glad(0, -1), -2);
        refusals("glad", x, 0, 4, 0, 0, 0);
        Due.is("glad of none", new EightMinutes().glad(0, 1), 0);
    }

    // Promise 14
    private static void shaded() {
        Due.is("nobody", new EightMinutes().shaded(), 0);
        Due.is("MEETERS", Due.told("lm0;lm0;rm0;rm0;rm0;").shaded(), 0);
        Due.is("EARLY ones once each", Due.told("le0;le0;re0;re0;").shaded(), 4);
        Due.is("HOPING ones whenever not ALONE", Due.told("lh0;rh0;rh0;").shaded(), 4);
        Due.is("TIRED ones from ROUND 2", Due.told("lt0;rm0;rm0;rm0;rm0;").shaded(), 2);
        EightMinutes x = Due.told("ls0;rm0;rm0;rm0;", "k059;k068;k077;");
        Due.is("SHADED", x.shaded(), 2);
        x.like(0, 6, 9);
        Due.is("SHADED", x.shaded(), 1);
    }

    // Promise 15
    private static void bestOrder() {
        Due.is("nobody", new EightMinutes().bestOrder(), 10);
        Due.is("all alike", Due.told("lm0;rm0;rm0;o44;").bestOrder(), 10);
        // Only 7, 8, 9 in this order shades nobody: by STEP 2 from the last on.
        EightMinutes x = Due.told("ls0;rm0;rm0;rm0;", "k059;k068;k077;");
        Due.is("7, 8, 9", x.bestOrder(), 22);
        Due.is("STEP stays", x.count(3), 1);
        Due.is("SHIFT stays", x.count(4), 0);
        Due.is("in 2 ROUNDS from the lesser on", Due.told("ls0;rm0;rm0;k059;k060;").bestOrder(), 11);
        // By STEP 2 nobody is shaded here, but then all meet the same ones twice.
        EightMinutes y = Due.told("ls0;ls0;rm0;rm0;k059;k060;k159;k160;o20;");
        Due.is("nobody shaded by STEP 2", y.shaded(), 0);
        Due.is("all MEET all, though one is shaded", y.bestOrder(), 10);
        // A HOPING one who never MEETS the only other is not shaded: still, all that can must MEET.
        Due.is("0 must MEET 5", Due.told("lh0;lm0;rm0;o21;").bestOrder(), 10);
        EightMinutes last = Due.told("ls0;rm0;rm0;rm0;rm0;rm0;", "k056;k067;k078;k089;k095;");
        Due.is("from the last on", last.bestOrder(), 14);
        last.like(0, 9, 9);
        last.like(0, 5, 0);
        Due.is("from the first on, by another liking", last.bestOrder(), 10);
        EightMinutes z = Due.told("lw0;lt0;lm0;lm0;lm0;", "rw0;o10;");
        int best = z.bestOrder();
        int least = 1000;
        int bestByHand = -9;
        for (int step = 1; step <= 4; step++) {
            for (int shift = 0; shift <= 4; shift++) {
                z.order(step, shift);
                if (z.shaded() < least) {
                    least = z.shaded();
                    bestByHand = 10 * step + shift;
                }
            }
        }
        Due.is("least of all, since 5 ROUNDS let all MEET by any STEP", best, bestByHand);
    }

    // Promise 16
    private static void ranks() {
        EightMinutes x = Due.told(CROSSED);
        int[] due = {5, 6};
        for (int one = 0; one < 2; one++) {
            Due.is("ranks(" + one + ")", x.ranks(one), due[one]);
            Due.is("ranks(" + due[one] + ")", x.ranks(due[one]), one);
        }
        Due.is("ranks(2)", x.ranks(2), -1);
        Due.is("ranks(7)", x.ranks(7), -1);
        Due.is("ranks(-1)", x.ranks(-1), -1);
        refusals("ranks", x, 3, 0, 0, 0, 0);
        EightMinutes few = Due.told("lm0;lm0;rm0;k519;");
        Due.is("nobody for 0", few.ranks(0), -9);
        Due.is("1 gets 5", few.ranks(1), 5);
        Due.is("5 gets 1", few.ranks(5), 1);
        EightMinutes ties = Due.told("lm0;lm0;rm0;rm0;rm0;");
        Due.is("of several the least", ties.ranks(0), 5);
        Due.is("of several the least", ties.ranks(1), 6);
        Due.is("nobody for 7", ties.ranks(7), -9);
        // 0 is sent away by 5 when 1 asks, 2 by 6 when 0 asks.
        EightMinutes chain = Due.told("lm0;lm0;lm0;rm0;rm0;rm0;", "k059;k068;k159;k269;k278;k519;k609;");
        Due.is("chain", chain.ranks(0), 6);
        Due.is("chain", chain.ranks(1), 5);
        Due.is("chain", chain.ranks(2), 7);
        // 0 is sent away by 5 and asks 6, whom 1 has.
        EightMinutes late = Due.told("lm0;lm0;lm0;rm0;rm0;rm0;", "k059;k068;k169;k259;k500;k529;");
        Due.is("liked as much, the lesser number is kept", late.ranks(6), 0);
        late.like(6, 1, 6);
        Due.is("liked less, the lesser number is sent away", late.ranks(6), 1);
        Due.is("and gets another", late.ranks(0), 7);
    }

    // Promise 17
    private static void asked() {
        EightMinutes x = Due.told(CROSSED);
        Due.is("asked(0)", x.asked(0), 6);
        Due.is("asked(1)", x.asked(1), 5);
        Due.is("asked(5)", x.asked(5), 1);
        Due.is("asked(6)", x.asked(6), 0);
        Due.is("asked(4)", x.asked(4), -1);
        Due.is("asked(10)", x.asked(10), -1);
        refusals("asked", x, 2, 0, 0, 0, 0);
        EightMinutes few = Due.told("lm0;rm0;rm0;k069;");
        Due.is("nobody for 5", few.asked(5), -9);
        Due.is("6 gets 0", few.asked(6), 0);
        Due.is("0 gets 6", few.asked(0), 6);
        EightMinutes ties = Due.told("lm0;lm0;lm0;rm0;rm0;");
        Due.is("of several the least", ties.asked(5), 0);
        Due.is("of several the least", ties.asked(6), 1);
        Due.is("nobody for 2", ties.asked(2), -9);
    }

    // Promise 18
    private static void firm() {
        Due.is("nobody", new EightMinutes().firm(), 1);
        Due.is("one SIDE only", Due.told("lm0;lm0;").firm(), 1);
        Due.is("the other only", Due.told("rm0;rm0;").firm(), 1);
        Due.is("one and one", Due.told("lm0;rm0;").firm(), 1);
        Due.is("one and five", Due.told("lm0;rm0;rm0;rm0;rm0;rm0;").firm(), 5);
        Due.is("crossed", Due.told(CROSSED).firm(), 2);
        Due.is("all alike, 2 of 3", Due.told("lm0;lm0;rm0;rm0;rm0;").firm(), 6);
        Due.is("all alike, 3 of 2", Due.told("lm0;lm0;lm0;rm0;rm0;").firm(), 6);
        Due.is("all alike, 5 of 5", Due.told("lm0;lm0;lm0;lm0;lm0;", "rm0;rm0;rm0;rm0;rm0;").firm(), 120);
        Due.is("one liked more by the only one", Due.told("lm0;lm0;rm0;k519;").firm(), 1);
        Due.is("both like each other more", Due.told("lm0;lm0;rm0;rm0;k056;k506;").firm(), 1);
        Due.is("only the one likes the other more", Due.told("lm0;lm0;rm0;rm0;k056;").firm(), 2);
        Due.is("all liked 0, nobody is less", Due.told("lm0;rm0;rm0;k050;k060;k500;k600;").firm(), 2);
    }

    // Promise 19
    private static void row() {
        EightMinutes x = new EightMinutes();
        Due.is("row(0)", x.row(0), 1);
        Due.is("row(31)", x.row(31), 2);
        Due.is("row(32)", x.row(32), -6);
        Due.is("row(-1)", x.row(-1), -4);
        for (int i = 3; i <= 10; i++) {
            Due.is("row " + i, x.row(9), i);
        }
        Due.is("row 11", x.row(9), -6);
        Due.is("row 11, below", x.row(-1), -4);
        Due.is("in the ROW", x.count(7), 10);
        refusals("row", x, 0, 0, 0, 2, 2);
    }

    private static void rather(EightMinutes x, int due, int... numbers) {
        row(x, numbers);
        Due.is("rather of " + java.util.Arrays.toString(numbers), x.rather(), due);
        Due.is("the ROW stays", x.count(7), numbers.length);
    }

    // Promise 20
    private static void rather() {
        EightMinutes x = Due.told(CROSSED);
        rather(x, -9, 0, 1);
        rather(x, -9, 1, 0);
        rather(x, 0, 9, 9);
        rather(x, 0, 9, 1);
        rather(x, 1, 9, 0);
        rather(x, 10, 0, 9);
        rather(x, 0, 1, 9);
        rather(x, -3);
        rather(x, -3, 0);
        rather(x, -3, 0, 1, 9);
        rather(x, -3, 0, 0);
        rather(x, -3, 0, 2);
        rather(x, -3, 5, 0);
        rather(x, -3, 10, 0);
        rather(x, -3, 31, 0);
        refusals("rather", x, 0, 0, 8, 0, 0);
        x.like(0, 5, 1);
        x.like(1, 6, 1);
        x.like(5, 0, 9);
        rather(x, -9, 1, 0);
        x.like(0, 5, 2);
        rather(x, -9, 1, 0);
        x.like(5, 1, 8);
        rather(x, 0, 1, 0);
        EightMinutes few = Due.told("lm0;rm0;rm0;rm0;");
        rather(few, -9, 2);
        rather(few, -3, 2, 1);
        rather(few, -3, 3);
        few.like(0, 5, 6);
        rather(few, 0, 2);
        EightMinutes many = Due.told("lm0;lm0;lm0;rm0;");
        rather(many, -9, 9, 9, 0);
        rather(many, -3, 0);
        rather(many, -3, 9, 9, 1);
        many.like(5, 1, 6);
        rather(many, 10, 9, 9, 0);
        EightMinutes most = Due.told("lm0;lm0;lm0;lm0;lm0;", "rm0;rm0;rm0;rm0;rm0;", "k490;k940;");
        rather(most, 44, 0, 1, 2, 3, 9);
        rather(most, -9, 0, 1, 2, 3, 4);
        rather(most, -3, 0, 1, 2, 3, 3);
        rather(most, -3, 0, 1, 2, 3, 5);
    }

    // Promise 21
    private static void truly() {
        EightMinutes x = Due.told("lm5;re5;rm5;rm5;", "k063;");
        Due.is("says yes", x.truly(0, 5), 0b1111100000);
        Due.is("says no", x.truly(0, 6), 0b0000011111);
        Due.is("EARLY", x.truly(5, 0), 0b0001111111);
        Due.is("all stays", x.liking(0, 6), 3);
        Due.is("all stays", x.liking(5, 0), 5);
        x.order(3, 0);
        Due.is("never met", x.truly(0, 6), 1023);
        Due.is("nobody", x.truly(1, 5), -1);
        Due.is("nobody", x.truly(0, 8), -1);
        Due.is("one SIDE", x.truly(5, 6), -1);
        refusals("truly", x, 3, 0, 0, 0, 0);
        EightMinutes shade = Due.told("ls5;rm5;rm5;k059;k066;");
        Due.is("SHADED by the one ahead", shade.truly(0, 6), 0b0011111111);
        Due.is("SHADED, the first", shade.truly(0, 5), 0b1111100000);
        EightMinutes hope = Due.told("lh5;rm0;k504;");
        Due.is("HOPING in vain", hope.truly(0, 5), 0b0000111111);
        Due.is("bar 0", Due.told("lm0;rm0;").truly(0, 5), 1023);
    }

    private static void judge(EightMinutes x, int due, int... numbers) {
        row(x, numbers);
        Due.is("judge of " + java.util.Arrays.toString(numbers), x.judge(), due);
        Due.is("the ROW has none", x.count(7), 0);
    }

    // Promise 22
    private static void judge() {
        EightMinutes x = Due.told("lm5;lm6;rm0;rm9;rm5;", "k055;k064;k076;k156;k169;");
        judge(x, -9, 5, 3, 3, 0, 3);
        judge(x, 0, 4, 3, 3, 0, 3);
        judge(x, 1, 5, 31, 3, 0, 3);
        judge(x, 2, 5, 3, 2, 1, 3);
        judge(x, 4, 5, 3, 3, 0, 2);
        judge(x, 0);
        judge(x, 4, 5, 3, 3, 0);
        judge(x, 1, 5, 2, 3, 0);
        judge(x, 5, 5, 3, 3, 0, 3, 0);
        judge(x, 5, 5, 3, 3, 0, 3, 0, 0, 0, 0, 0);
        judge(x, 3, 5, 3, 3, 1, 3, 0);
        refusals("judge", x, 0, 0, 0, 0, 0);
        judge(new EightMinutes(), -9);
        judge(new EightMinutes(), 0, 0);
        judge(Due.told("lm0;lm0;lm0;lm0;lm0;", "rm0;rm0;rm0;rm0;rm0;"), -9, 31, 31, 31, 31, 31, 31, 31, 31, 31, 31);
    }

    // Promise 23
    private static void clear() {
        EightMinutes x = new EightMinutes();
        Due.is("clear of none", x.clear(), 0);
        x.row(1);
        x.row(2);
        Due.is("clear", x.clear(), 2);
        Due.is("clear again", x.clear(), 0);
        Due.is("row starts anew", x.row(3), 1);
    }

    // Promise 24
    private static void lots() {
        EightMinutes x = Due.told("lw5;lw4;rw5;rh5;rm0;");
        Due.is("lots(5, 7)", x.lots(5, 7), 13);
        x.order(3, 0);
        Due.is("lots(5, 7) by STEP 3", x.lots(5, 7), 4);
        Due.is("likings stay", x.liking(0, 5), 5);
        Due.is("lots(0, 7)", x.lots(0, 7), -4);
        Due.is("lots(-1, 7)", x.lots(-1, 7), -4);
        Due.is("lots(21, 7)", x.lots(21, 7), -6);
        refusals("lots", x, 0, 0, 0, 2, 1);
        EightMinutes all = Due.told("lm0;lm0;rm0;rm0;rm0;");
        Due.is("all say yes", all.lots(20, -1), 120);
        Due.is("all say yes once", all.lots(1, Integer.MIN_VALUE), 6);
        all.law(3);
        Due.is("by ranks two each time", all.lots(20, 99), 40);
        Due.is("nobody", new EightMinutes().lots(20, 5), 0);
        // From seed 0 the DRAWS are (z without its sign by 256) modulo 10: 1013904223 gives 7, 1196435762 gives 3.
        EightMinutes two = Due.told("lm7;rm3;");
        Due.is("the first DRAW is 7, the second 7 or more below", two.lots(1, 0), drawn(0, 7, 3));
        for (int z = -50; z < 50; z++) {
            Due.is("one evening with seed " + z, two.lots(1, z), drawn(z, 7, 3));
        }
    }

    /** 1 if the first DRAW below 10 is the one BAR or more and the second the other. */
    private static int drawn(int seed, int leftBar, int rightBar) {
        int first = seed * 1664525 + 1013904223;
        int second = first * 1664525 + 1013904223;
        boolean leftSays = (first & 0x7fffffff) / 256 % 10 >= leftBar;
        boolean rightSays = (second & 0x7fffffff) / 256 % 10 >= rightBar;
        return leftSays && rightSays ? 1 : 0;
    }

    // Promise 25
    private static void image() {
        EightMinutes x = new EightMinutes();
        Due.is("image of nobody", x.image(), 0);
        Due.tell(x, "lm0;rm0;rm0;");
        Due.is("on from nobody", x.on(), 0);
        Due.is("LEFT", x.count(0), 0);
        Due.tell(x, "lm0;rm0;rm0;k059;");
        Due.is("image", x.image(), 3);
        Due.is("image changes nothing", x.liking(0, 5), 9);
        x.like(0, 5, 1);
        Due.is("a later image", x.image(), 3);
        x.like(0, 5, 2);
        Due.is("on from the later", x.on(), 3);
        Due.is("liking", x.liking(0, 5), 1);
    }

    // Promise 26
    private static void on() {
        EightMinutes x = new EightMinutes();
        Due.is("on from none", x.on(), -3);
        Due.tell(x, "le3;rw4;k052;o23;w1;");
        x.row(7);
        x.letter('l');
        x.image();
        Due.tell(x, "lh9;");
        x.letter('l');
        Due.is("a bad evening", x.evening(), -1001);
        Due.tell(x, "lh9;rm0;k058;k067;k161;o44;w3;");
        x.row(8);
        x.letter('r');
        x.letter('r');
        x.person(9, 0);
        Due.is("on", x.on(), 2);
        int[] due = {1, 1, 1, 2, 3, 1, 0, 2, 2};
        for (int what = 0; what < due.length; what++) {
            Due.is("behind on: count(" + what + ")", x.count(what), due[what]);
        }
        Due.is("KIND", x.person(0, 0), 1);
        Due.is("BAR", x.person(5, 1), 4);
        Due.is("liking(0, 5)", x.liking(0, 5), 2);
        Due.is("liking(0, 6)", x.liking(0, 6), -1);
        refusals("on", x, 2, 0, 1, 0, 0);
        x.clear();
        for (int i = 0; i < 5; i++) {
            x.letter('x');
        }
        x.evening();
        Due.tell(x, "lm0;rm0;");
        Due.is("5 from who comes new", x.liking(0, 6), 5);
        Due.is("5 of who comes new", x.liking(1, 5), 5);
        Due.is("on again", x.on(), 2);
    }

    // Promise 27
    private static void count() {
        EightMinutes x = Due.told("lm0;lm0;rm0;rm0;rm0;rm0;o31;w2;");
        x.row(1);
        x.row(1);
        x.row(1);
        x.letter('l');
        int[] due = {2, 4, 4, 3, 1, 2, 8, 3, 1, -9, -9, 0, 0, 0, 0, 0, 0, -9};
        for (int what = 0; what < due.length; what++) {
            Due.is("count(" + what + ")", x.count(what), due[what]);
        }
        Due.is("count(-1)", x.count(-1), -9);
        Due.is("count(least)", x.count(Integer.MIN_VALUE), -9);
        Due.is("count(greatest)", x.count(Integer.MAX_VALUE), -9);
        Due.is("all GAPS of LEFT ones", Due.told("lm0;lm0;lm0;rm0;").count(6), 6);
        Due.is("all GAPS of one SIDE", Due.told("lm0;lm0;lm0;").count(6), 9);
        x.order(4, 0);
        Due.is("all GAPS of a STEP by which two are never met", x.count(6), 8);
        Due.is("no refusal for another what", x.count(12), 0);
    }
}
