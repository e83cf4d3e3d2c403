import java.util.Random;

/** Runs of drawn calls (always the same ones): every answer is compared with the model's. */
public final class ModelTests {
    private static final int RUNS = 1500;
    private static final int CALLS = 512;
    private static final int[] ODD = {-1, -2, -9, 10, 11, 32, 255, 256, 999, Integer.MIN_VALUE, Integer.MAX_VALUE};

    private final Random random;
    private final EightMinutes x = new EightMinutes();
    private final Model model = new Model();
    private String text = "";

    private ModelTests(int seed) {
        random = new Random(seed);
    }

    public static void main(String[] args) {
        for (int seed = 1; seed <= RUNS; seed++) {
            new ModelTests(seed).run("run " + seed);
        }
        Due.end();
    }

    private void run(String name) {
        begin();
        for (int i = 0; i < CALLS; i++) {
            call(name + ", call " + i + ": ");
        }
    }

    /** Most runs begin with people of drawn kinds, so that there is something to ask. */
    private void begin() {
        if (random.nextInt(10) == 0) {
            return;
        }
        StringBuilder people = new StringBuilder();
        for (int side = 0; side < 2; side++) {
            for (int i = random.nextInt(6); i > 0; i--) {
                people.append("lr".charAt(side)).append("metshw".charAt(random.nextInt(6))).append(random.nextInt(10)).append(';');
            }
        }
        text = people.toString();
    }

    private int number(int below) {
        return random.nextInt(40) == 0 ? ODD[random.nextInt(ODD.length)] : random.nextInt(below);
    }

    private int someone() {
        return number(10);
    }

    /** One who is more likely there: low numbers of a side. */
    private int other(int one) {
        return random.nextInt(20) == 0 ? someone() : (one < 5 ? 5 : 0) + random.nextInt(5);
    }

    private void call(String where) {
        if (!text.isEmpty()) {
            int c = random.nextInt(400) == 0 ? number(256) : text.charAt(0);
            text = text.substring(1);
            Due.is(where + "letter(" + c + ")", x.letter(c), model.letter(c));
            if (text.isEmpty()) {
                Due.is(where + "evening()", x.evening(), model.evening());
            }
            return;
        }
        int which = random.nextInt(34);
        if (which < 3) {
            change(where, which);
        } else if (which < 15) {
            askOne(where, which);
        } else {
            askAll(where, which);
        }
    }

    private void change(String where, int which) {
        if (which == 0 && random.nextInt(4) == 0) {
            text = drawnText();
        } else if (which == 1) {
            int step = random.nextInt(20) == 0 ? number(6) : 1 + random.nextInt(4);
            int shift = random.nextInt(20) == 0 ? number(6) : random.nextInt(5);
            Due.is(where + "order(" + step + ", " + shift + ")", x.order(step, shift), model.order(step, shift));
        } else {
            int law = number(4);
            Due.is(where + "law(" + law + ")", x.law(law), model.law(law));
        }
    }

    private String drawnText() {
        StringBuilder drawn = new StringBuilder();
        for (int i = random.nextInt(8); i >= 0; i--) {
            switch (random.nextInt(12)) {
                case 0:
                    drawn.append("l").append("metshw".charAt(random.nextInt(6))).append(random.nextInt(10)).append(';');
                    break;
                case 1:
                    drawn.append("r").append("metshw".charAt(random.nextInt(6))).append(random.nextInt(10)).append(';');
                    break;
                case 2:
                    drawn.append("o").append(random.nextInt(6)).append(random.nextInt(6)).append(';');
                    break;
                case 3:
                    drawn.append("w").append(random.nextInt(5)).append(';');
                    break;
                default:
                    int one = random.nextInt(10);
                    drawn.append("k").append(one).append(other(Math.min(one, 9)) % 10).append(random.nextInt(10)).append(';');
            }
        }
        if (random.nextInt(6) == 0) {
            drawn.setLength(random.nextInt(drawn.length()));
        }
        return drawn.toString().replace("-", "");
    }

    private void askOne(String where, int which) {
        int one = someone();
        int other = other(one);
        int what = number(3);
        int round = number(6);
        switch (which) {
            case 3: Due.is(where + "person(" + one + ", " + what + ")", x.person(one, what), model.person(one, what)); break;
            case 4: Due.is(where + "liking(" + one + ", " + other + ")", x.liking(one, other), model.liking(one, other)); break;
            case 5: Due.is(where + "meets(" + one + ", " + round + ")", x.meets(one, round), model.meets(one, round)); break;
            case 6: Due.is(where + "felt(" + one + ", " + round + ")", x.felt(one, round), model.felt(one, round)); break;
            case 7: Due.is(where + "yeses(" + one + ", " + what + ")", x.yeses(one, what), model.yeses(one, what)); break;
            case 8: Due.is(where + "pairs(" + one + ")", x.pairs(one), model.pairs(one)); break;
            case 9: Due.is(where + "ranks(" + one + ")", x.ranks(one), model.ranks(one)); break;
            case 10: Due.is(where + "asked(" + one + ")", x.asked(one), model.asked(one)); break;
            case 11: Due.is(where + "truly(" + one + ", " + other + ")", x.truly(one, other), model.truly(one, other)); break;
            default:
                int v = number(10);
                Due.is(where + "like(" + one + ", " + other + ", " + v + ")", x.like(one, other, v), model.like(one, other, v));
        }
    }

    private void askAll(String where, int which) {
        int v = number(20);
        switch (which) {
            case 15: Due.is(where + "pairs(-1)", x.pairs(-1), model.pairs(-1)); break;
            case 16: case 17: glad(where); break;
            case 18: Due.is(where + "shaded()", x.shaded(), model.shaded()); break;
            case 19: Due.is(where + "bestOrder()", x.bestOrder(), model.bestOrder()); break;
            case 20: Due.is(where + "firm()", x.firm(), model.firm()); break;
            case 21: Due.is(where + "row(" + v + ")", x.row(v), model.row(v)); break;
            case 22: case 23: rather(where); break;
            case 24: case 25: judge(where); break;
            case 26: Due.is(where + "clear()", x.clear(), model.clear()); break;
            case 27: lots(where); break;
            case 28: Due.is(where + "image()", x.image(), model.image()); break;
            case 29: on(where); break;
            default: Due.is(where + "count(" + v + ")", x.count(v), model.count(v));
        }
    }

    private void glad(String where) {
        int law = number(4);
        int what = number(2);
        Due.is(where + "glad(" + law + ", " + what + ")", x.glad(law, what), model.glad(law, what));
    }

    private void lots(String where) {
        int n = random.nextInt(4) == 0 ? number(22) : 1 + random.nextInt(3);
        int z = random.nextInt();
        Due.is(where + "lots(" + n + ", " + z + ")", x.lots(n, z), model.lots(n, z));
    }

    private void on(String where) {
        if (random.nextInt(3) == 0) {
            Due.is(where + "on()", x.on(), model.on());
        }
    }

    private void tellRow(String where, int v) {
        Due.is(where + "row(" + v + ")", x.row(v), model.row(v));
    }

    /** A row of as many as there are on the left, each another one, most often. */
    private void rather(String where) {
        Due.is(where + "clear()", x.clear(), model.clear());
        int left = model.count(0) + (random.nextInt(12) == 0 ? random.nextInt(3) - 1 : 0);
        int from = random.nextInt(5);
        int by = 1 + random.nextInt(4);
        for (int i = 0; i < left; i++) {
            int right = (from + i * by) % 5;
            boolean isNobody = random.nextInt(6) == 0 || right >= model.count(1) && random.nextInt(8) != 0;
            tellRow(where, random.nextInt(30) == 0 ? number(32) : isNobody ? 9 : right);
        }
        Due.is(where + "rather()", x.rather(), model.rather());
        Due.is(where + "count(7)", x.count(7), model.count(7));
    }

    /** Slips as they are, but for one drawn, or one too few or many, now and then. */
    private void judge(String where) {
        Due.is(where + "clear()", x.clear(), model.clear());
        for (int one = 0; one < 10; one++) {
            boolean isThere = one % 5 < model.count(one / 5);
            if (isThere && random.nextInt(30) != 0) {
                tellRow(where, random.nextInt(30) == 0 ? random.nextInt(32) : model.yeses(one, 0));
                x.yeses(one, 0);
            }
        }
        if (random.nextInt(10) == 0) {
            tellRow(where, random.nextInt(32));
        }
        Due.is(where + "judge()", x.judge(), model.judge());
    }
}
