/** Runs of mixed calls, the same ones each time, in which every answer is the one of the PlainGreen. */
public final class MixedRunsTest {
    private static final int RUNS = 6000;
    /** Some more characters than the input holds. */
    private static final int MOST_TYPED = 66;
    private static final int[] WILD = {Integer.MIN_VALUE, -100, -1, 41, 100, 1 << 16, Integer.MAX_VALUE};
    private static final String SIGNS = "ebcwrsth0123456789:,@*+-; x~";

    /** Numbers that look as if they were thrown, but follow from the number of the run alone. */
    private static final class Dice {
        private long state;

        Dice(int run) {
            state = run * 0x9E3779B97F4A7C15L + 1;
        }

        int nextInt(int bound) {
            state = state * 6364136223846793005L + 1442695040888963407L;
            return (int) ((state >>> 33) % bound);
        }

        boolean nextBoolean() {
            return nextInt(2) == 1;
        }
    }

    private final Check check = new Check();
    private CountedGreen x;
    private PlainGreen plain;
    private Dice dice;
    private int run;

    private int number(int least, int most) {
        if (dice.nextInt(60) == 0) {
            return WILD[dice.nextInt(WILD.length)];
        }
        return least + dice.nextInt(most - least + 1);
    }

    /** Mostly a rink that there is. */
    private int rink() {
        return dice.nextInt(12) == 0 ? number(-1, 4) : dice.nextInt(Math.max(1, plain.account(3)));
    }

    /** Mostly a wood that could be bowled on the rink. */
    private int wood(int rink) {
        int wood = number(-1, 16);
        for (int i = 0; i < 20; i++) {
            if (dice.nextInt(15) == 0 || plain.woodOf(wood, 2) == 0 && plain.woodOf(wood, 0) == plain.rinkOf(rink, 5)) {
                return wood;
            }
            wood = number(0, Math.max(0, plain.account(4) - 1));
        }
        return wood;
    }

    private int column(int rink) {
        int first = Math.max(0, plain.rinkOf(rink, 0));
        int last = Math.max(first + 2, plain.rinkOf(rink, 1));
        return dice.nextInt(20) == 0 ? number(first - 1, last + 1) : first + dice.nextInt(last - first + 1);
    }

    /** Mostly one that leads near the jacks. */
    private int strength() {
        return dice.nextInt(3) == 0 ? number(0, 21) : number(8, 19);
    }

    private void due(String name, long got, long want) {
        check.due("run " + run + ", call " + x.calls() + ": " + name, got, want);
    }

    private void change(String name, int... a) {
        long want = plain.change(name, a);
        long got = switch (name) {
            case "rink" -> x.rink(a[0], a[1]);
            case "wood" -> x.wood(a[0], a[1]);
            case "begin" -> x.begin(a[0], a[1]);
            case "bowl" -> x.bowl(a[0], a[1], a[2], a[3], a[4] == 1);
            case "close" -> x.close(a[0]);
            case "sweep" -> x.sweep(a[0]);
            case "rain" -> x.rain(a[0]);
            case "sun" -> x.sun(a[0]);
            case "brew" -> x.brew(a[0]);
            case "tea" -> x.tea(a[0]);
            case "hour" -> x.hour(a[0]);
            default -> x.script();
        };
        due(name, got, want);
    }

    private void bowl() {
        int rink = rink();
        change("bowl", rink, wood(rink), column(rink), strength(), dice.nextInt(2));
    }

    private String order() {
        int rink = Math.floorMod(rink(), 10);
        return switch (dice.nextInt(9)) {
            case 0 -> "e" + rink + ":" + Math.floorMod(number(19, 41), 100);
            case 1, 2 -> "b" + rink + "," + Math.floorMod(wood(rink), 100) + "@" + Math.floorMod(column(rink), 100) + "*"
                + Math.floorMod(strength(), 100) + (dice.nextBoolean() ? "+" : "-");
            case 3 -> "c" + rink;
            case 4 -> "w" + rink;
            case 5 -> "r" + dice.nextInt(10);
            case 6 -> "s" + dice.nextInt(10);
            case 7 -> "t" + (dice.nextInt(20) == 0 ? 2 : dice.nextInt(2));
            default -> "h" + (dice.nextInt(8) == 0 ? "" : "0") + dice.nextInt(10);
        };
    }

    private void type() {
        StringBuilder text = new StringBuilder(order());
        while (dice.nextInt(3) != 0) {
            text.append(';').append(order());
        }
        if (dice.nextInt(4) == 0) {
            text.setCharAt(dice.nextInt(text.length()), SIGNS.charAt(dice.nextInt(SIGNS.length())));
        }
        if (dice.nextInt(8) == 0) {
            text.setLength(dice.nextInt(text.length() + 1));
        }
        for (int i = 0; i < text.length() && i < MOST_TYPED; i++) {
            due("append", x.append(text.charAt(i)), plain.append(text.charAt(i)));
        }
        change("script");
        due("fault", x.fault(), plain.fault());
    }

    private void doSomething() {
        switch (dice.nextInt(34)) {
            case 0 -> {
                int first = number(0, 27);
                change("rink", first, dice.nextInt(8) == 0 ? number(0, 29) : first + number(2, 9));
            }
            case 1, 2, 3 -> change("wood", dice.nextInt(15) == 0 ? number(-1, 2) : dice.nextInt(2), number(0, 9));
            case 4, 5, 6 -> change("begin", rink(), number(20, 40));
            case 7, 8, 9, 10, 11, 12, 13, 14, 15, 16 -> bowl();
            case 17 -> change("close", rink());
            case 18 -> change("sweep", rink());
            case 19 -> change("rain", number(0, 9));
            case 20 -> change("sun", number(0, 9));
            case 21 -> change("brew", number(0, 21));
            case 22 -> change("tea", number(0, 1));
            case 23 -> change("hour", dice.nextInt(4) == 0 ? number(0, 25) : number(1, 4));
            case 24, 25, 26, 27 -> {
                if (hasRoom(MOST_TYPED + 2)) {
                    type();
                }
            }
            case 28, 29 -> due("undo", x.undo(), plain.undo());
            case 30 -> {
                char character = (char) number(30, 128);
                due("append", x.append(character), plain.append(character));
            }
            case 31 -> {
                if (dice.nextInt(4) == 0) {
                    due("save", x.save(), plain.save());
                }
            }
            case 32 -> {
                if (dice.nextInt(6) == 0) {
                    due("restore", x.restore(), plain.restore());
                }
            }
            default -> {
                if (dice.nextInt(25) == 0) {
                    due("clear", x.clear(), plain.clear());
                }
            }
        }
    }

    private void tell() {
        int rink = rink();
        int wood = number(-1, 16);
        int what = number(-1, 15);
        int place = number(-1, 9);
        int hours = number(0, 41);
        boolean isOther = dice.nextBoolean();
        switch (dice.nextInt(20)) {
            case 0, 1 -> due("account " + what, x.account(what), plain.account(what));
            case 2, 3, 4 -> due("rinkOf " + rink + " " + place, x.rinkOf(rink, place), plain.rinkOf(rink, place));
            case 5, 6, 7 -> due("woodOf " + wood + " " + place, x.woodOf(wood, place), plain.woodOf(wood, place));
            case 8 -> {
                int club = number(-1, 2);
                due("clubOf " + club + " " + place, x.clubOf(club, place), plain.clubOf(club, place));
            }
            case 9 -> due("rinkAt " + place, x.rinkAt(place), plain.rinkAt(place));
            case 10 -> due("nearest " + rink + " " + place, x.nearest(rink, place), plain.nearest(rink, place));
            case 11 -> due("shots " + rink, x.shots(rink, isOther), plain.shots(rink));
            case 12 -> tellWould(rink, wood, isOther);
            case 13 -> due("wetIn " + rink + " " + hours, x.wetIn(rink, hours), plain.wetIn(rink, hours));
            case 14 -> due("castsIn " + rink + " " + hours, x.castsIn(rink, hours), plain.castsIn(rink, hours));
            case 15 -> due("dryIn " + rink, x.dryIn(rink), plain.dryIn(rink));
            case 16 -> due("leader", x.leader(), plain.leader());
            case 17 -> tellLine(rink);
            case 18 -> tellShares(isOther);
            default -> tellReason(isOther);
        }
    }

    private void tellWould(int rink, int wood, boolean isRight) {
        int column = column(rink);
        int strength = strength();
        if (dice.nextBoolean()) {
            due("would", x.would(rink, wood, column, strength, isRight), plain.would(rink, wood, column, strength, isRight));
        } else {
            due("bestStrength", x.bestStrength(rink, wood, column, isRight), plain.bestStrength(rink, wood, column, isRight));
        }
    }

    private void tellLine(int rink) {
        int index = number(-1, 40);
        if (dice.nextInt(4) == 0) {
            due("describe", x.describe(rink), plain.describe(rink));
        } else {
            due("written " + index, x.written(index), plain.written(index));
        }
    }

    private void tellShares(boolean isOther) {
        if (isOther) {
            check.dueDouble("meanWet", x.meanWet(), plain.meanWet());
        } else {
            check.dueDouble("winShare", x.winShare(), plain.winShare());
        }
    }

    private void tellReason(boolean isDetail) {
        int depth = number(-1, 3);
        if (dice.nextInt(4) == 0) {
            due("fault", x.fault(), plain.fault());
        } else {
            due("reason " + depth, x.reason(depth, isDetail), plain.reason(depth, isDetail));
        }
    }

    private boolean hasRoom(int calls) {
        return x.calls() + calls <= CountedGreen.MOST_CALLS;
    }

    /** Makes and tells something in turn, and at the end of the calls only tells. */
    private void runOnce() {
        dice = new Dice(run);
        x = new CountedGreen();
        plain = new PlainGreen();
        int made = 100 + dice.nextInt(400);
        while (hasRoom(1)) {
            if (x.calls() < made && dice.nextInt(3) != 0) {
                doSomething();
            } else {
                tell();
            }
        }
    }

    public static void main(String[] args) {
        MixedRunsTest test = new MixedRunsTest();
        for (test.run = 0; test.run < RUNS; test.run++) {
            test.runOnce();
        }
        test.check.end();
    }
}
