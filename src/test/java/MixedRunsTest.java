/** Runs of mixed calls, the same ones each time, in which every answer is the one of the PlainGreen. */
public final class MixedRunsTest {
    private static final int RUNS = 1500;
    private static final int CALLS = 512;
    private static final int[] WILD = {Integer.MIN_VALUE, -100, -1, 41, 100, 1 << 16, Integer.MAX_VALUE};
    private static final String SIGNS = "ebcwrsth0123456789:,@*+-; x~";

    /** Numbers that look as if they were thrown, but follow from the number of the run alone. */
    private static final class Dice {
        private long state;

        Dice(int run) {
            state = run * 0x9E3779B97F4A7C15L + 1;
        }

        int nextInt(int bound) {
            state = state * 6364136223846793005L + 1442695040888963407L;
            return (int) ((state >>> 33) % bound);
        }

        boolean nextBoolean() {
            return nextInt(2) == 1;
        }
    }

    private final Check check = new Check();
    private BowlsGreen x;
    private PlainGreen plain;
    private Dice dice;
    private int run;
    private int call;

    private int number(int least, int most) {
        if (dice.nextInt(60) == 0) {
            return WILD[dice.nextInt(WILD.length)];
        }
        return least + dice.nextInt(most - least + 1);
    }

    /** Mostly a rink that there is. */
    private int rink() {
        return dice.nextInt(12) == 0 ? number(-1, 4) : dice.nextInt(Math.max(1, x.account(3)));
    }

    /** Mostly a wood that could be bowled on the rink. */
    private int wood(int rink) {
        int wood = number(-1, 16);
        for (int i = 0; i < 20; i++) {
            if (dice.nextInt(15) == 0 || x.woodOf(wood, 2) == 0 && x.woodOf(wood, 0) == x.rinkOf(rink, 5)) {
                return wood;
            }
            wood = number(0, Math.max(0, x.account(4) - 1));
        }
        return wood;
    }

    private int column(int rink) {
        int first = Math.max(0, x.rinkOf(rink, 0));
        int last = Math.max(first + 2, x.rinkOf(rink, 1));
        return dice.nextInt(20) == 0 ? number(first - 1, last + 1) : first + dice.nextInt(last - first + 1);
    }

    /** Mostly one that leads near the jacks. */
    private int strength() {
        return dice.nextInt(3) == 0 ? number(0, 21) : number(8, 19);
    }

    private void due(String name, long got, long want) {
        check.due("run " + run + ", call " + call + ": " + name, got, want);
    }

    private void change(String name, int... a) {
        long want = plain.change(name, a);
        long got = switch (name) {
            case "rink" -> x.rink(a[0], a[1]);
            case "wood" -> x.wood(a[0], a[1]);
            case "begin" -> x.begin(a[0], a[1]);
            case "bowl" -> x.bowl(a[0], a[1], a[2], a[3], a[4] == 1);
            case "close" -> x.close(a[0]);
            case "sweep" -> x.sweep(a[0]);
            case "rain" -> x.rain(a[0]);
            case "sun" -> x.sun(a[0]);
            case "brew" -> x.brew(a[0]);
            case "tea" -> x.tea(a[0]);
            case "hour" -> x.hour(a[0]);
            default -> x.script();
        };
        due(name, got, want);
    }

    private void bowl() {
        int rink = rink();
        change("bowl", rink, wood(rink), column(rink), strength(), dice.nextInt(2));
    }

    private String order() {
        int rink = Math.floorMod(rink(), 10);
        return switch (dice.nextInt(9)) {
            case 0 -> "e" + rink + ":" + Math.floorMod(number(19, 41), 100);
            case 1, 2 -> "b" + rink + "," + Math.floorMod(wood(rink), 100) + "@" + Math.floorMod(column(rink), 100) + "*"
                + Math.floorMod(strength(), 100) + (dice.nextBoolean() ? "+" : "-");
            case 3 -> "c" + rink;
            case 4 -> "w" + rink;
            case 5 -> "r" + dice.nextInt(10);
            case 6 -> "s" + dice.nextInt(10);
            case 7 -> "t" + (dice.nextInt(20) == 0 ? 2 : dice.nextInt(2));
            default -> "h" + (dice.nextInt(8) == 0 ? "" : "0") + dice.nextInt(10);
        };
    }

    private void type() {
        StringBuilder text = new StringBuilder(order());
        while (dice.nextInt(3) != 0) {
            text.append(';').append(order());
        }
        if (dice.nextInt(4) == 0) {
            text.setCharAt(dice.nextInt(text.length()), SIGNS.charAt(dice.nextInt(SIGNS.length())));
        }
        if (dice.nextInt(8) == 0) {
            text.setLength(dice.nextInt(text.length() + 1));
        }
        for (int i = 0; i < text.length(); i++) {
            due("append", x.append(text.charAt(i)), plain.append(text.charAt(i)));
        }
        change("script");
        due("fault", x.fault(), plain.fault());
    }

    private void doSomething() {
        switch (dice.nextInt(34)) {
            case 0 -> {
                int first = number(0, 27);
                change("rink", first, dice.nextInt(8) == 0 ? number(0, 29) : first + number(2, 9));
            }
            case 1, 2, 3 -> change("wood", dice.nextInt(15) == 0 ? number(-1, 2) : dice.nextInt(2), number(0, 9));
            case 4, 5, 6 -> change("begin", rink(), number(20, 40));
            case 7, 8, 9, 10, 11, 12, 13, 14, 15, 16 -> bowl();
            case 17 -> change("close", rink());
            case 18 -> change("sweep", rink());
            case 19 -> change("rain", number(0, 9));
            case 20 -> change("sun", number(0, 9));
            case 21 -> change("brew", number(0, 21));
            case 22 -> change("tea", number(0, 1));
            case 23 -> change("hour", dice.nextInt(4) == 0 ? number(0, 25) : number(1, 4));
            case 24, 25, 26, 27 -> type();
            case 28, 29 -> due("undo", x.undo(), plain.undo());
            case 30 -> {
                char character = (char) number(30, 128);
                due("append", x.append(character), plain.append(character));
            }
            case 31 -> {
                if (dice.nextInt(4) == 0) {
                    due("save", x.save(), plain.save());
                }
            }
            case 32 -> {
                if (dice.nextInt(6) == 0) {
                    due("restore", x.restore(), plain.restore());
                }
            }
            default -> {
                if (dice.nextInt(25) == 0) {
                    due("clear", x.clear(), plain.clear());
                }
            }
        }
    }

    private void tell() {
        int rink = rink();
        int wood = wood(rink);
        int column = column(rink);
        int strength = strength();
        boolean isRight = dice.nextBoolean();
        int hours = number(0, 41);
        int place = number(-1, 9);
        due("would", x.would(rink, wood, column, strength, isRight), plain.would(rink, wood, column, strength, isRight));
        due("bestStrength", x.bestStrength(rink, wood, column, isRight), plain.bestStrength(rink, wood, column, isRight));
        due("nearest", x.nearest(rink, place), plain.nearest(rink, place));
        due("rinkAt", x.rinkAt(place), plain.rinkAt(place));
        due("shots", x.shots(rink, false), plain.shots(rink));
        due("shots again", x.shots(rink, true), plain.shots(rink));
        due("wetIn", x.wetIn(rink, hours), plain.wetIn(rink, hours));
        due("castsIn", x.castsIn(rink, hours), plain.castsIn(rink, hours));
        due("dryIn", x.dryIn(rink), plain.dryIn(rink));
        due("leader", x.leader(), plain.leader());
        due("describe", x.describe(rink), plain.describe(rink));
        check.dueDouble("meanWet", x.meanWet(), plain.meanWet());
        check.dueDouble("winShare", x.winShare(), plain.winShare());
        for (int depth = -1; depth < 4; depth++) {
            due("reason", x.reason(depth, false), plain.reason(depth, false));
            due("detail", x.reason(depth, true), plain.reason(depth, true));
        }
        due("fault", x.fault(), plain.fault());
    }

    private void tellAll() {
        for (int what = -1; what <= 15; what++) {
            due("account " + what, x.account(what), plain.account(what));
        }
        for (int rink = -1; rink <= 4; rink++) {
            for (int what = -1; what <= 9; what++) {
                due("rinkOf " + rink + " " + what, x.rinkOf(rink, what), plain.rinkOf(rink, what));
            }
        }
        for (int wood = -1; wood <= 16; wood++) {
            for (int what = -1; what <= 8; what++) {
                due("woodOf " + wood + " " + what, x.woodOf(wood, what), plain.woodOf(wood, what));
            }
        }
        for (int club = -1; club <= 2; club++) {
            for (int what = -1; what <= 6; what++) {
                due("clubOf " + club + " " + what, x.clubOf(club, what), plain.clubOf(club, what));
            }
        }
        for (int index = -1; index < 100; index++) {
            due("written " + index, x.written(index), plain.written(index));
        }
    }

    private void runAll() {
        for (run = 0; run < RUNS; run++) {
            dice = new Dice(run);
            x = new BowlsGreen();
            plain = new PlainGreen();
            for (call = 0; call < CALLS / 4; call++) {
                doSomething();
                tell();
                if (call % 16 == 0) {
                    tellAll();
                }
            }
        }
        check.end();
    }

    public static void main(String[] args) {
        new MixedRunsTest().runAll();
    }
}
