import java.util.ArrayDeque;
import java.util.ArrayList;
import java.util.Comparator;
import java.util.Deque;
import java.util.List;
import java.util.TreeSet;
import java.util.regex.Matcher;
import java.util.regex.Pattern;

/**
 * The document once more, written with the Java library and without a thought of cost, for the mixed runs to compare
 * with. A state is copied before every change; a script works on a copy.
 */
final class PlainGreen {
    private static final int NONE = -1;
    private static final int BAD = -2;
    private static final int REFUSED = -3;
    private static final int NOTHING = -4;

    private static final Pattern SCRIPT = Pattern.compile("(?:ORDER)(?:;(?:ORDER))*".replace("ORDER",
        "e\\d:\\d\\d?|b\\d,\\d\\d?@\\d\\d?\\*\\d\\d?[+-]|[cwrst]\\d|h\\d\\d?"));
    private static final Pattern NUMBER = Pattern.compile("\\d+");

    private static final class PlainRink {
        int first, last, wet, casts, jack, winner, turn, closed;
        int[] bowled = new int[2];

        PlainRink copy() {
            PlainRink copy = new PlainRink();
            copy.first = first;
            copy.last = last;
            copy.wet = wet;
            copy.casts = casts;
            copy.jack = jack;
            copy.winner = winner;
            copy.turn = turn;
            copy.closed = closed;
            copy.bowled = bowled.clone();
            return copy;
        }
    }

    /** A wood with no rink is in the shed, with a rink and no place it is dead. */
    private record PlainWood(int club, int bias, Integer rink, int[] place, int bowled) {
        boolean isInShed() {
            return rink == null;
        }

        boolean lies() {
            return place != null;
        }
    }

    private static final class State {
        final List<PlainRink> rinks = new ArrayList<>();
        final List<PlainWood> woods = new ArrayList<>();
        int[][] clubs = {{0, 0, 10, 0}, {0, 0, 10, 0}};
        int hour, rain = 1, sun = 2, cups = 12, drunk, swept;

        State copy() {
            State copy = new State();
            rinks.forEach(rink -> copy.rinks.add(rink.copy()));
            copy.woods.addAll(woods);
            copy.clubs = new int[][] {clubs[0].clone(), clubs[1].clone()};
            copy.hour = hour;
            copy.rain = rain;
            copy.sun = sun;
            copy.cups = cups;
            copy.drunk = drunk;
            copy.swept = swept;
            return copy;
        }

        int distance(int rink, int column, int length) {
            int middle = (rinks.get(rink).first + rinks.get(rink).last) / 2;
            return (column - middle) * (column - middle) + (length - rinks.get(rink).jack) * (length - rinks.get(rink).jack);
        }

        int distance(int wood) {
            return distance(woods.get(wood).rink, woods.get(wood).place[0], woods.get(wood).place[1]);
        }

        List<Integer> lying(int rink) {
            List<Integer> found = new ArrayList<>();
            for (int i = 0; i < woods.size(); i++) {
                if (woods.get(i).lies() && woods.get(i).rink == rink) {
                    found.add(i);
                }
            }
            found.sort(Comparator.<Integer>comparingInt(this::distance).thenComparingInt(wood -> wood));
            return found;
        }

        int[] landing(int rink, int wood, int column, int strength, boolean isRight) {
            PlainRink r = rinks.get(rink);
            int side = isRight ? 1 : -1;
            int end = column + side * (woods.get(wood).bias * strength / 10);
            int length = 4 + strength + strength - r.wet / 2 - r.casts;
            if (length < 0) {
                length = 0;
            }
            if (end < r.first || end > r.last || length > 40) {
                return null;
            }
            TreeSet<Integer> free = new TreeSet<>();
            for (int i = 0; i <= length; i++) {
                free.add(i);
            }
            for (int other : lying(rink)) {
                if (other != wood && woods.get(other).place[0] == end) {
                    free.remove(woods.get(other).place[1]);
                }
            }
            return free.isEmpty() ? null : new int[] {end, free.last()};
        }

        int counted(int rink) {
            List<Integer> lying = lying(rink);
            if (lying.isEmpty()) {
                return 0;
            }
            int club = woods.get(lying.get(0)).club;
            int limit = lying.stream().filter(wood -> woods.get(wood).club != club).mapToInt(this::distance).min()
                .orElse(1000000);
            long count = lying.stream().filter(wood -> woods.get(wood).club == club && distance(wood) < limit).count();
            return count == 0 ? 0 : (int) count + 10 * club;
        }

        void pass() {
            for (PlainRink r : rinks) {
                r.wet += rain - sun;
                if (r.wet < 0) {
                    r.wet = 0;
                }
                if (r.wet > 20) {
                    r.wet = 20;
                }
                if (r.wet >= 5 && r.jack == 0 && r.casts < 9) {
                    r.casts++;
                }
            }
            hour++;
        }

        State after(int hours) {
            State copy = copy();
            for (int i = 0; i < hours; i++) {
                copy.pass();
            }
            return copy;
        }

        int dry(int rink) {
            for (int hours = 0; hours <= 40; hours++) {
                if (after(hours).rinks.get(rink).wet < 8) {
                    return hours;
                }
            }
            return -1;
        }

        int casts() {
            return rinks.stream().mapToInt(r -> r.casts).sum();
        }
    }

    private State now = new State();
    private State saved;
    private final Deque<State> before = new ArrayDeque<>();
    private final StringBuilder input = new StringBuilder();
    private int fault = NOTHING;
    private List<int[]> reasons = List.of();
    private String line = "";

    private int refuse(int... numbersAndDetails) {
        List<int[]> chain = new ArrayList<>();
        for (int i = 0; i < numbersAndDetails.length; i += 2) {
            chain.add(new int[] {numbersAndDetails[i], numbersAndDetails[i + 1]});
        }
        reasons = chain;
        return REFUSED;
    }

    /** Carries out a change on a copy, which is taken if there is no code. */
    int change(String name, int... a) {
        State old = now;
        now = old.copy();
        int answer = name.equals("script") ? script() : order(name, a);
        boolean isMade = answer >= 0 || name.equals("bowl") && answer == NOTHING;
        if (!isMade) {
            now = old;
            return answer;
        }
        before.push(old);
        if (before.size() > 8) {
            before.removeLast();
        }
        return answer;
    }

    private int order(String name, int... a) {
        return switch (name) {
            case "rink" -> rink(a[0], a[1]);
            case "wood" -> wood(a[0], a[1]);
            case "begin" -> begin(a[0], a[1]);
            case "bowl" -> bowl(a[0], a[1], a[2], a[3], a[4] == 1);
            case "close" -> close(a[0]);
            case "sweep" -> sweep(a[0]);
            case "rain" -> rain(a[0]);
            case "sun" -> sun(a[0]);
            case "brew" -> brew(a[0]);
            case "tea" -> tea(a[0]);
            default -> hour(a[0]);
        };
    }

    private boolean isRink(int rink) {
        return rink >= 0 && rink < now.rinks.size();
    }

    private boolean isWood(int wood) {
        return wood >= 0 && wood < now.woods.size();
    }

    private boolean isColumnOf(int rink, int column) {
        return now.rinks.get(rink).first <= column && column <= now.rinks.get(rink).last;
    }

    private static boolean isWithin(int number, int least, int most) {
        return number >= least && number <= most;
    }

    private int rink(int first, int last) {
        if (!isWithin(first, 0, 29) || !isWithin(last, 0, 29) || !isWithin(last - first + 1, 3, 10)) {
            return BAD;
        }
        if (now.rinks.size() == 4) {
            return refuse(1, 4);
        }
        for (int other = 0; other < now.rinks.size(); other++) {
            for (int column = first; column <= last; column++) {
                if (isColumnOf(other, column)) {
                    return refuse(2, other);
                }
            }
        }
        PlainRink made = new PlainRink();
        made.first = first;
        made.last = last;
        now.rinks.add(made);
        return now.rinks.size() - 1;
    }

    private int wood(int club, int bias) {
        if (!isWithin(club, 0, 1)) {
            return NONE;
        }
        if (!isWithin(bias, 0, 9)) {
            return BAD;
        }
        if (now.woods.size() == 16) {
            return refuse(1, 16);
        }
        now.woods.add(new PlainWood(club, bias, null, null, 0));
        return now.woods.size() - 1;
    }

    private int begin(int rink, int length) {
        if (!isRink(rink)) {
            return NONE;
        }
        if (!isWithin(length, 20, 40)) {
            return BAD;
        }
        PlainRink r = now.rinks.get(rink);
        if (r.jack > 0) {
            return refuse(4, r.jack);
        }
        if (r.wet >= 8) {
            return refuse(3, r.wet, 13, now.dry(rink));
        }
        r.jack = length;
        r.turn = r.winner;
        r.bowled = new int[2];
        return r.turn;
    }

    private int bowl(int rink, int wood, int column, int strength, boolean isRight) {
        if (!isRink(rink) || !isWood(wood)) {
            return NONE;
        }
        if (!isColumnOf(rink, column) || !isWithin(strength, 1, 20)) {
            return BAD;
        }
        PlainRink r = now.rinks.get(rink);
        PlainWood w = now.woods.get(wood);
        if (r.jack == 0) {
            return refuse(5, rink);
        }
        if (!w.isInShed()) {
            return refuse(7, w.rink());
        }
        if (r.bowled[w.club()] == 4) {
            return refuse(8, 4);
        }
        if (r.turn != w.club()) {
            return refuse(6, r.turn);
        }
        int[] place = now.landing(rink, wood, column, strength, isRight);
        now.woods.set(wood, new PlainWood(w.club(), w.bias(), rink, place, w.bowled() + 1));
        r.bowled[w.club()]++;
        r.turn = 1 - r.turn;
        return place == null ? NOTHING : now.distance(wood);
    }

    private int close(int rink) {
        if (!isRink(rink)) {
            return NONE;
        }
        PlainRink r = now.rinks.get(rink);
        if (r.jack == 0) {
            return refuse(5, rink);
        }
        int counted = now.counted(rink);
        if (counted != 0) {
            r.winner = counted / 10;
            now.clubs[r.winner][0] += counted % 10;
            now.clubs[r.winner][1]++;
        }
        r.jack = 0;
        r.closed++;
        now.woods.replaceAll(w -> w.rink() != null && w.rink() == rink
            ? new PlainWood(w.club(), w.bias(), null, null, w.bowled()) : w);
        return counted;
    }

    private int sweep(int rink) {
        if (!isRink(rink)) {
            return NONE;
        }
        int casts = now.rinks.get(rink).casts;
        if (casts == 0) {
            return refuse(9, rink);
        }
        int cups = casts / 3 + (casts % 3 == 0 ? 0 : 1);
        if (now.cups < cups) {
            return refuse(10, cups - now.cups);
        }
        now.cups -= cups;
        now.drunk += cups;
        now.swept += casts;
        now.rinks.get(rink).casts = 0;
        return casts;
    }

    private int rain(int rain) {
        if (!isWithin(rain, 0, 9)) {
            return BAD;
        }
        int old = now.rain;
        now.rain = rain;
        return old;
    }

    private int sun(int sun) {
        if (!isWithin(sun, 0, 9)) {
            return BAD;
        }
        int old = now.sun;
        now.sun = sun;
        return old;
    }

    private int brew(int cups) {
        if (!isWithin(cups, 1, 20)) {
            return BAD;
        }
        for (int i = 0; i < cups && now.cups < 40; i++) {
            now.cups++;
        }
        return now.cups;
    }

    private int tea(int club) {
        if (!isWithin(club, 0, 1)) {
            return NONE;
        }
        if (now.cups == 0) {
            return refuse(10, 1);
        }
        if (now.clubs[club][2] == 0) {
            return refuse(11, club);
        }
        now.cups--;
        now.drunk++;
        now.clubs[club][2]--;
        return ++now.clubs[club][3];
    }

    private int hour(int hours) {
        if (!isWithin(hours, 1, 24)) {
            return BAD;
        }
        now = now.after(hours);
        return now.casts();
    }

    private int script() {
        String text = input.toString();
        input.setLength(0);
        if (!SCRIPT.matcher(text).matches()) {
            fault = faultOf(text);
            return BAD;
        }
        String[] orders = text.split(";");
        for (int i = 0; i < orders.length; i++) {
            List<int[]> kept = reasons;
            reasons = List.of();
            int answer = scriptOrder(orders[i]);
            boolean isRefused = answer == NONE || answer == BAD || answer == REFUSED;
            List<int[]> behind = reasons;
            reasons = kept;
            if (isRefused) {
                List<int[]> chain = new ArrayList<>();
                chain.add(new int[] {12, i});
                chain.addAll(behind);
                reasons = chain;
                return REFUSED;
            }
        }
        return orders.length;
    }

    /** The first beginning of the text that no longer text continues. */
    private static int faultOf(String text) {
        for (int length = 1; length <= text.length(); length++) {
            Matcher matcher = SCRIPT.matcher(text.substring(0, length));
            if (!matcher.matches() && !matcher.hitEnd()) {
                return length - 1;
            }
        }
        return text.length();
    }

    private int scriptOrder(String order) {
        Matcher matcher = NUMBER.matcher(order);
        int[] numbers = new int[5];
        for (int i = 0; matcher.find(); i++) {
            numbers[i] = Integer.parseInt(matcher.group());
        }
        if (order.endsWith("+")) {
            numbers[4] = 1;
        }
        String name = switch (order.charAt(0)) {
            case 'e' -> "begin";
            case 'b' -> "bowl";
            case 'c' -> "close";
            case 'w' -> "sweep";
            case 'r' -> "rain";
            case 's' -> "sun";
            case 't' -> "tea";
            default -> "hour";
        };
        return order(name, numbers);
    }

    int clear() {
        int hour = now.hour;
        now = new State();
        before.clear();
        return hour;
    }

    int append(int code) {
        if (!isWithin(code, 32, 126) || input.length() == 60) {
            return BAD;
        }
        input.append((char) code);
        return input.length();
    }

    int undo() {
        if (before.isEmpty()) {
            return NOTHING;
        }
        now = before.pop();
        return before.size();
    }

    int save() {
        saved = now.copy();
        return now.hour;
    }

    int restore() {
        if (saved == null) {
            return NOTHING;
        }
        now = saved.copy();
        before.clear();
        return now.hour;
    }

    int fault() {
        return fault;
    }

    int reason(int depth, boolean isDetail) {
        if (depth < 0) {
            return BAD;
        }
        return depth >= reasons.size() ? NOTHING : reasons.get(depth)[isDetail ? 1 : 0];
    }

    private static int pick(int what, int... numbers) {
        return what < 0 || what >= numbers.length ? BAD : numbers[what];
    }

    int rinkOf(int rink, int what) {
        if (!isRink(rink)) {
            return NONE;
        }
        PlainRink r = now.rinks.get(rink);
        int dead = (int) now.woods.stream().filter(w -> !w.isInShed() && !w.lies() && w.rink() == rink).count();
        return pick(what, r.first, r.last, r.wet, r.casts, r.jack, r.jack > 0 ? r.turn : r.winner,
            now.lying(rink).size(), dead, r.closed);
    }

    int woodOf(int wood, int what) {
        if (!isWood(wood)) {
            return NONE;
        }
        PlainWood w = now.woods.get(wood);
        int state = w.isInShed() ? 0 : w.lies() ? 1 : 2;
        return pick(what, w.club(), w.bias(), state, w.isInShed() ? NOTHING : w.rink(), w.lies() ? w.place()[0] : NOTHING,
            w.lies() ? w.place()[1] : NOTHING, w.lies() ? now.distance(wood) : NOTHING, w.bowled());
    }

    int clubOf(int club, int what) {
        if (!isWithin(club, 0, 1)) {
            return NONE;
        }
        int[] c = now.clubs[club];
        int woods = (int) now.woods.stream().filter(w -> w.club() == club).count();
        int inShed = (int) now.woods.stream().filter(w -> w.club() == club && w.isInShed()).count();
        return pick(what, c[0], c[1], c[2], c[3], woods, inShed);
    }

    int rinkAt(int place) {
        List<PlainRink> sorted = new ArrayList<>(now.rinks);
        sorted.sort(Comparator.comparingInt(r -> r.first));
        return isWithin(place, 0, sorted.size() - 1) ? now.rinks.indexOf(sorted.get(place)) : NONE;
    }

    int nearest(int rink, int place) {
        if (!isRink(rink)) {
            return NONE;
        }
        List<Integer> lying = now.lying(rink);
        return isWithin(place, 0, lying.size() - 1) ? lying.get(place) : NOTHING;
    }

    int shots(int rink) {
        if (!isRink(rink)) {
            return NONE;
        }
        return now.rinks.get(rink).jack == 0 ? NOTHING : now.counted(rink);
    }

    int would(int rink, int wood, int column, int strength, boolean isRight) {
        if (!isRink(rink) || !isWood(wood)) {
            return NONE;
        }
        if (!isColumnOf(rink, column) || !isWithin(strength, 1, 20)) {
            return BAD;
        }
        int[] place = now.landing(rink, wood, column, strength, isRight);
        return place == null ? NOTHING : 100 * place[0] + place[1];
    }

    int bestStrength(int rink, int wood, int column, boolean isRight) {
        if (!isRink(rink) || !isWood(wood)) {
            return NONE;
        }
        if (!isColumnOf(rink, column)) {
            return BAD;
        }
        if (now.rinks.get(rink).jack == 0) {
            return NOTHING;
        }
        List<Integer> strengths = new ArrayList<>();
        for (int strength = 1; strength <= 20; strength++) {
            if (would(rink, wood, column, strength, isRight) != NOTHING) {
                strengths.add(strength);
            }
        }
        return strengths.stream().min(Comparator.comparingInt(strength -> {
            int would = would(rink, wood, column, strength, isRight);
            return now.distance(rink, would / 100, would % 100);
        })).orElse(NOTHING);
    }

    int wetIn(int rink, int hours) {
        if (!isRink(rink)) {
            return NONE;
        }
        return isWithin(hours, 0, 40) ? now.after(hours).rinks.get(rink).wet : BAD;
    }

    int castsIn(int rink, int hours) {
        if (!isRink(rink)) {
            return NONE;
        }
        return isWithin(hours, 0, 40) ? now.after(hours).rinks.get(rink).casts : BAD;
    }

    int dryIn(int rink) {
        if (!isRink(rink)) {
            return NONE;
        }
        return now.dry(rink) < 0 ? NOTHING : now.dry(rink);
    }

    int leader() {
        int shots = Integer.compare(now.clubs[0][0], now.clubs[1][0]);
        int ends = Integer.compare(now.clubs[0][1], now.clubs[1][1]);
        int order = shots != 0 ? shots : ends;
        return order == 0 ? NOTHING : order > 0 ? 0 : 1;
    }

    int describe(int rink) {
        if (!isRink(rink)) {
            return NONE;
        }
        PlainRink r = now.rinks.get(rink);
        line = r.first + "-" + r.last + ": " + (r.wet == 0 ? "dry" : "wet " + r.wet) + (r.jack > 0 ? " j" + r.jack : "");
        for (int wood : now.lying(rink)) {
            line += " " + wood + "/" + now.distance(wood);
        }
        return line.length();
    }

    int written(int index) {
        return isWithin(index, 0, line.length() - 1) ? line.charAt(index) : NONE;
    }

    float meanWet() {
        int sum = now.rinks.stream().mapToInt(r -> r.wet).sum();
        return now.rinks.isEmpty() ? 0.0f : (float) sum / now.rinks.size();
    }

    double winShare() {
        int closed = now.rinks.stream().mapToInt(r -> r.closed).sum();
        return closed == 0 ? 0.0 : (double) (now.clubs[0][1] + now.clubs[1][1]) / closed;
    }

    int account(int what) {
        int played = (int) now.rinks.stream().filter(r -> r.jack > 0).count();
        int closed = now.rinks.stream().mapToInt(r -> r.closed).sum();
        int bowled = now.woods.stream().mapToInt(PlainWood::bowled).sum();
        int inShed = (int) now.woods.stream().filter(PlainWood::isInShed).count();
        return pick(what, now.hour, now.rain, now.sun, now.rinks.size(), now.woods.size(), played, closed, bowled, now.cups,
            now.drunk, now.casts(), now.swept, inShed, input.length(), before.size());
    }
}
