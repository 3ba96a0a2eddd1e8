/** A green for lawn bowls that is kept; ../shared/DOC.md says what it does. */
public final class BowlsGreen {
    public static final int NONE = -1;
    public static final int BAD = -2;
    public static final int REFUSED = -3;
    public static final int NOTHING = -4;

    private static final int LAST_COLUMN = 29;
    private static final int LAST_LENGTH = 40;
    private static final int FEWEST_COLUMNS = 3;
    private static final int MOST_COLUMNS = 10;
    private static final int LEAST_JACK = 20;
    private static final int CLUBS = 2;
    private static final int MOST_RINKS = 4;
    private static final int MOST_WOODS = 16;
    private static final int MOST_BIAS = 9;
    private static final int MOST_BOWLED = 4;
    private static final int MOST_STRENGTH = 20;
    private static final int SHOTS_OF_CLUB_1 = 10;
    private static final int COLUMN_FACTOR = 100;
    /** Greater than each distance on the green. */
    private static final int BEYOND = 1000000;

    private static final int MOST_WET = 20;
    private static final int TOO_WET = 8;
    private static final int WET_FOR_CASTS = 5;
    private static final int MOST_CASTS = 9;
    private static final int MOST_WEATHER = 9;
    private static final int MOST_HOURS = 24;
    private static final int MOST_HOURS_AHEAD = 40;

    private static final int FIRST_CUPS = 12;
    private static final int MOST_CUPS = 40;
    private static final int MOST_BREWED = 20;
    private static final int CASTS_FOR_A_CUP = 3;
    private static final int FIRST_COINS = 10;

    private static final int IN_SHED = 0;
    private static final int LIES = 1;
    private static final int DEAD = 2;

    private static final int MOST_CHARACTERS = 60;
    private static final int FIRST_CODE = 32;
    private static final int LAST_CODE = 126;
    /** An order has two characters or more. */
    private static final int MOST_ORDERS = MOST_CHARACTERS / 2;
    private static final int NUMBERS_OF_ORDER = 5;
    private static final int DIGITS_OF_NUMBER = 2;

    private static final int AS_MANY_AS_CAN_BE = 1;
    private static final int COLUMN_IN_OTHER_RINK = 2;
    private static final int RINK_TOO_WET = 3;
    private static final int END_IS_PLAYED = 4;
    private static final int NO_END_IS_PLAYED = 5;
    private static final int TURN_OF_OTHER_CLUB = 6;
    private static final int WOOD_NOT_IN_SHED = 7;
    private static final int CLUB_HAS_BOWLED_ALL = 8;
    private static final int NO_CASTS = 9;
    private static final int TOO_FEW_CUPS = 10;
    private static final int NO_COINS = 11;
    private static final int ORDER_RETURNS_CODE = 12;
    private static final int HOURS_UNTIL_DRY = 13;
    /** A script, its order, and what stands behind the reason of the order. */
    private static final int MOST_REASONS = 3;

    private static final int MOST_UNDONE = 8;
    private static final int PLACES_OF_PAST = MOST_UNDONE + 1;

    private final Green green;
    private final Green saved;
    private boolean isSaved;
    private final Past past;
    private final StringBuilder input;
    private final Orders orders;
    private int faultPosition;
    private final Reasons reasons;
    private final StringBuilder line;

    public BowlsGreen() {
        green = new Green();
        saved = new Green();
        isSaved = false;
        past = new Past();
        input = new StringBuilder();
        orders = new Orders();
        faultPosition = NOTHING;
        reasons = new Reasons();
        line = new StringBuilder();
    }

    // The changes.

    public int clear() {
        int hour = green.hour;
        green.reset();
        past.forget();
        return hour;
    }

    public int append(char character) {
        if (character < FIRST_CODE || character > LAST_CODE || input.length() >= MOST_CHARACTERS) {
            return BAD;
        }
        input.append(character);
        return input.length();
    }

    public int rink(int first, int last) {
        past.note(green);
        return settle(layRink(first, last));
    }

    public int wood(int club, int bias) {
        past.note(green);
        return settle(addWood(club, bias));
    }

    public int begin(int rink, int length) {
        past.note(green);
        return settle(beginEnd(rink, length));
    }

    public int bowl(int rink, int wood, int column, int strength, boolean isRight) {
        past.note(green);
        return settle(bowlWood(rink, wood, column, strength, isRight));
    }

    public int close(int rink) {
        past.note(green);
        return settle(closeEnd(rink));
    }

    public int sweep(int rink) {
        past.note(green);
        return settle(sweepRink(rink));
    }

    public int rain(int rain) {
        past.note(green);
        return settle(setRain(rain));
    }

    public int sun(int sun) {
        past.note(green);
        return settle(setSun(sun));
    }

    public int brew(int cups) {
        past.note(green);
        return settle(brewCups(cups));
    }

    public int tea(int club) {
        past.note(green);
        return settle(giveTea(club));
    }

    public int hour(int hours) {
        past.note(green);
        return settle(passHours(hours));
    }

    public int script() {
        past.note(green);
        int answer = orders.read(input) ? carryOutOrders() : keepFault();
        input.setLength(0);
        return settle(answer);
    }

    /** Makes a call a change that can be undone, unless it answered with a code. */
    private int settle(int answer) {
        if (!isCode(answer)) {
            past.keep();
        }
        return answer;
    }

    /** NOTHING is missing here: among the changes bowl alone answers it, for a wood that was bowled and is dead. */
    private static boolean isCode(int answer) {
        return answer == NONE || answer == BAD || answer == REFUSED;
    }

    private int refuse(int reason, int detail) {
        reasons.empty();
        reasons.put(reason, detail);
        return REFUSED;
    }

    private int layRink(int first, int last) {
        if (first < 0 || first > LAST_COLUMN || last < 0 || last > LAST_COLUMN) {
            return BAD;
        }
        int columns = last - first + 1;
        if (columns < FEWEST_COLUMNS || columns > MOST_COLUMNS) {
            return BAD;
        }
        if (green.rinkCount >= MOST_RINKS) {
            return refuse(AS_MANY_AS_CAN_BE, MOST_RINKS);
        }
        int other = green.lowestRinkWithin(first, last);
        if (other != NONE) {
            return refuse(COLUMN_IN_OTHER_RINK, other);
        }
        int number = green.rinkCount;
        green.rinks[number].lay(first, last);
        green.rinkCount++;
        return number;
    }

    private int addWood(int club, int bias) {
        if (!isClub(club)) {
            return NONE;
        }
        if (bias < 0 || bias > MOST_BIAS) {
            return BAD;
        }
        if (green.woodCount >= MOST_WOODS) {
            return refuse(AS_MANY_AS_CAN_BE, MOST_WOODS);
        }
        int number = green.woodCount;
        green.woods[number].make(club, bias);
        green.woodCount++;
        return number;
    }

    private int beginEnd(int rink, int length) {
        if (!green.isRink(rink)) {
            return NONE;
        }
        if (length < LEAST_JACK || length > LAST_LENGTH) {
            return BAD;
        }
        Rink place = green.rinks[rink];
        if (place.isPlayed()) {
            return refuse(END_IS_PLAYED, place.jack);
        }
        if (place.wet >= TOO_WET) {
            return refuseWetRink(place.wet, green.hoursUntilDry(rink));
        }
        place.startEnd(length);
        return place.turn;
    }

    private int refuseWetRink(int wet, int hours) {
        reasons.empty();
        reasons.put(HOURS_UNTIL_DRY, hours);
        reasons.put(RINK_TOO_WET, wet);
        return REFUSED;
    }

    private int bowlWood(int rink, int wood, int column, int strength, boolean isRight) {
        if (!green.isRink(rink) || !green.isWood(wood)) {
            return NONE;
        }
        if (!green.rinks[rink].holds(column) || !isStrength(strength)) {
            return BAD;
        }
        if (isBowlRefused(rink, wood)) {
            return REFUSED;
        }
        Rink place = green.rinks[rink];
        Wood bowled = green.woods[wood];
        int landing = green.landing(rink, wood, column, strength, isRight);
        place.bowled[bowled.club]++;
        place.turn = otherClub(place.turn);
        bowled.bowled++;
        bowled.rink = rink;
        if (landing == NOTHING) {
            bowled.state = DEAD;
            return NOTHING;
        }
        bowled.state = LIES;
        bowled.column = landing / COLUMN_FACTOR;
        bowled.length = landing % COLUMN_FACTOR;
        bowled.distance = place.distance(bowled.column, bowled.length);
        return bowled.distance;
    }

    private boolean isBowlRefused(int rink, int wood) {
        Rink place = green.rinks[rink];
        Wood bowled = green.woods[wood];
        int answer = 0;
        if (!place.isPlayed()) {
            answer = refuse(NO_END_IS_PLAYED, rink);
        } else if (bowled.state != IN_SHED) {
            answer = refuse(WOOD_NOT_IN_SHED, bowled.rink);
        } else if (place.bowled[bowled.club] >= MOST_BOWLED) {
            answer = refuse(CLUB_HAS_BOWLED_ALL, MOST_BOWLED);
        } else if (place.turn != bowled.club) {
            answer = refuse(TURN_OF_OTHER_CLUB, place.turn);
        }
        return answer == REFUSED;
    }

    private int closeEnd(int rink) {
        if (!green.isRink(rink)) {
            return NONE;
        }
        Rink place = green.rinks[rink];
        if (!place.isPlayed()) {
            return refuse(NO_END_IS_PLAYED, rink);
        }
        int counted = green.countShots(rink);
        if (counted > 0) {
            int winner = counted > SHOTS_OF_CLUB_1 ? 1 : 0;
            green.clubs[winner].shots += counted % SHOTS_OF_CLUB_1;
            green.clubs[winner].ends++;
            place.starter = winner;
        }
        place.finishEnd();
        green.bringWoodsToShed(rink);
        return counted;
    }

    private int sweepRink(int rink) {
        if (!green.isRink(rink)) {
            return NONE;
        }
        int casts = green.rinks[rink].casts;
        if (casts == 0) {
            return refuse(NO_CASTS, rink);
        }
        int cups = (casts + CASTS_FOR_A_CUP - 1) / CASTS_FOR_A_CUP;
        if (cups > green.cups) {
            return refuse(TOO_FEW_CUPS, cups - green.cups);
        }
        green.drink(cups);
        green.rinks[rink].casts = 0;
        green.swept += casts;
        return casts;
    }

    private int setRain(int rain) {
        if (!isWeather(rain)) {
            return BAD;
        }
        int before = green.rain;
        green.rain = rain;
        return before;
    }

    private int setSun(int sun) {
        if (!isWeather(sun)) {
            return BAD;
        }
        int before = green.sun;
        green.sun = sun;
        return before;
    }

    private int brewCups(int cups) {
        if (cups < 1 || cups > MOST_BREWED) {
            return BAD;
        }
        green.cups = Math.min(MOST_CUPS, green.cups + cups);
        return green.cups;
    }

    private int giveTea(int club) {
        if (!isClub(club)) {
            return NONE;
        }
        if (green.cups < 1) {
            return refuse(TOO_FEW_CUPS, 1 - green.cups);
        }
        Club guest = green.clubs[club];
        if (guest.coins < 1) {
            return refuse(NO_COINS, club);
        }
        green.drink(1);
        guest.coins--;
        guest.teas++;
        return guest.teas;
    }

    private int passHours(int hours) {
        if (hours < 1 || hours > MOST_HOURS) {
            return BAD;
        }
        for (int i = 0; i < hours; i++) {
            green.passHour();
        }
        return green.allCasts();
    }

    // Scripts and reasons.

    private int keepFault() {
        faultPosition = orders.position;
        return BAD;
    }

    private int carryOutOrders() {
        for (int order = 0; order < orders.count; order++) {
            int answer = carryOut(order);
            if (isCode(answer)) {
                past.putBack(green);
                return refuseScript(order, answer);
            }
        }
        return orders.count;
    }

    private int carryOut(int order) {
        int first = orders.number(order, 0);
        int second = orders.number(order, 1);
        switch (orders.signs[order]) {
            case 'e':
                return beginEnd(first, second);
            case 'b':
                return bowlWood(first, second, orders.number(order, 2), orders.number(order, 3),
                        orders.number(order, 4) == 1);
            case 'c':
                return closeEnd(first);
            case 'w':
                return sweepRink(first);
            case 'r':
                return setRain(first);
            case 's':
                return setSun(first);
            case 't':
                return giveTea(first);
            default:
                return passHours(first);
        }
    }

    private int refuseScript(int order, int answer) {
        if (answer != REFUSED) {
            reasons.empty();
        }
        reasons.put(ORDER_RETURNS_CODE, order);
        return REFUSED;
    }

    public int fault() {
        return faultPosition;
    }

    public int reason(int depth, boolean isDetail) {
        if (depth < 0) {
            return BAD;
        }
        return reasons.tell(depth, isDetail);
    }

    // What is told of rinks, woods and clubs.

    public int rinkOf(int rink, int what) {
        if (!green.isRink(rink)) {
            return NONE;
        }
        Rink place = green.rinks[rink];
        switch (what) {
            case 0:
                return place.first;
            case 1:
                return place.last;
            case 2:
                return place.wet;
            case 3:
                return place.casts;
            case 4:
                return place.jack;
            case 5:
                return place.turn;
            case 6:
                return green.woodsOn(rink, LIES);
            case 7:
                return green.woodsOn(rink, DEAD);
            case 8:
                return place.closed;
            default:
                return BAD;
        }
    }

    public int woodOf(int wood, int what) {
        if (!green.isWood(wood)) {
            return NONE;
        }
        Wood told = green.woods[wood];
        boolean isPlaced = told.state == LIES;
        switch (what) {
            case 0:
                return told.club;
            case 1:
                return told.bias;
            case 2:
                return told.state;
            case 3:
                return told.state == IN_SHED ? NOTHING : told.rink;
            case 4:
                return isPlaced ? told.column : NOTHING;
            case 5:
                return isPlaced ? told.length : NOTHING;
            case 6:
                return isPlaced ? told.distance : NOTHING;
            case 7:
                return told.bowled;
            default:
                return BAD;
        }
    }

    public int clubOf(int club, int what) {
        if (!isClub(club)) {
            return NONE;
        }
        Club told = green.clubs[club];
        switch (what) {
            case 0:
                return told.shots;
            case 1:
                return told.ends;
            case 2:
                return told.coins;
            case 3:
                return told.teas;
            case 4:
                return green.woodsOfClub(club);
            case 5:
                return green.woodsOfClubInShed(club);
            default:
                return BAD;
        }
    }

    public int rinkAt(int place) {
        return green.rinkInOrder(place);
    }

    public int nearest(int rink, int place) {
        if (!green.isRink(rink)) {
            return NONE;
        }
        return green.woodInOrder(rink, place);
    }

    // What is told of ends, and what would be.

    public int shots(int rink, boolean isAgain) {
        if (!green.isRink(rink)) {
            return NONE;
        }
        if (!green.rinks[rink].isPlayed()) {
            return NOTHING;
        }
        return isAgain ? green.countShotsInOrder(rink) : green.countShots(rink);
    }

    public int would(int rink, int wood, int column, int strength, boolean isRight) {
        if (!green.isRink(rink) || !green.isWood(wood)) {
            return NONE;
        }
        if (!green.rinks[rink].holds(column) || !isStrength(strength)) {
            return BAD;
        }
        return green.landing(rink, wood, column, strength, isRight);
    }

    public int bestStrength(int rink, int wood, int column, boolean isRight) {
        if (!green.isRink(rink) || !green.isWood(wood)) {
            return NONE;
        }
        Rink place = green.rinks[rink];
        if (!place.holds(column)) {
            return BAD;
        }
        if (!place.isPlayed()) {
            return NOTHING;
        }
        int best = NOTHING;
        int least = BEYOND;
        for (int strength = 1; strength <= MOST_STRENGTH; strength++) {
            int landing = green.landing(rink, wood, column, strength, isRight);
            if (landing != NOTHING) {
                int distance = place.distance(landing / COLUMN_FACTOR, landing % COLUMN_FACTOR);
                if (distance < least) {
                    least = distance;
                    best = strength;
                }
            }
        }
        return best;
    }

    public int wetIn(int rink, int hours) {
        if (!green.isRink(rink)) {
            return NONE;
        }
        if (hours < 0 || hours > MOST_HOURS_AHEAD) {
            return BAD;
        }
        return green.wetAhead(rink, hours);
    }

    public int castsIn(int rink, int hours) {
        if (!green.isRink(rink)) {
            return NONE;
        }
        if (hours < 0 || hours > MOST_HOURS_AHEAD) {
            return BAD;
        }
        return green.castsAhead(rink, hours);
    }

    public int dryIn(int rink) {
        if (!green.isRink(rink)) {
            return NONE;
        }
        int hours = green.hoursUntilDry(rink);
        return hours == NONE ? NOTHING : hours;
    }

    public int leader() {
        Club zero = green.clubs[0];
        Club one = green.clubs[1];
        if (zero.shots != one.shots) {
            return zero.shots > one.shots ? 0 : 1;
        }
        if (zero.ends != one.ends) {
            return zero.ends > one.ends ? 0 : 1;
        }
        return NOTHING;
    }

    // The written line.

    public int describe(int rink) {
        if (!green.isRink(rink)) {
            return NONE;
        }
        Rink place = green.rinks[rink];
        line.setLength(0);
        line.append(place.first).append('-').append(place.last).append(": ");
        if (place.wet == 0) {
            line.append("dry");
        } else {
            line.append("wet ").append(place.wet);
        }
        if (place.isPlayed()) {
            line.append(" j").append(place.jack);
        }
        int lying = green.woodsOn(rink, LIES);
        for (int i = 0; i < lying; i++) {
            writeWood(green.woodInOrder(rink, i));
        }
        return line.length();
    }

    private void writeWood(int wood) {
        if (green.isWood(wood)) {
            line.append(' ').append(wood).append('/').append(green.woods[wood].distance);
        }
    }

    public int written(int index) {
        if (index < 0 || index >= line.length()) {
            return NONE;
        }
        return line.charAt(index);
    }

    // Accounts.

    public float meanWet() {
        if (green.rinkCount == 0) {
            return 0.0f;
        }
        return (float) green.allWet() / (float) green.rinkCount;
    }

    public double winShare() {
        int closed = green.endsClosed();
        if (closed == 0) {
            return 0.0;
        }
        return (double) (green.clubs[0].ends + green.clubs[1].ends) / (double) closed;
    }

    public int account(int what) {
        switch (what) {
            case 0:
                return green.hour;
            case 1:
                return green.rain;
            case 2:
                return green.sun;
            case 3:
                return green.rinkCount;
            case 4:
                return green.woodCount;
            case 5:
                return green.endsPlayed();
            case 6:
                return green.endsClosed();
            case 7:
                return green.woodsBowled();
            case 8:
                return green.cups;
            case 9:
                return green.drunk;
            case 10:
                return green.allCasts();
            case 11:
                return green.swept;
            case 12:
                return green.woodsInShed();
            case 13:
                return input.length();
            case 14:
                return past.count;
            default:
                return BAD;
        }
    }

    // Undo and saving.

    public int undo() {
        if (past.count == 0) {
            return NOTHING;
        }
        past.takeBack(green);
        return past.count;
    }

    public int save() {
        saved.become(green);
        isSaved = true;
        return green.hour;
    }

    public int restore() {
        if (!isSaved) {
            return NOTHING;
        }
        green.become(saved);
        past.forget();
        return green.hour;
    }

    private static boolean isClub(int club) {
        return club >= 0 && club < CLUBS;
    }

    private static int otherClub(int club) {
        return 1 - club;
    }

    private static boolean isStrength(int strength) {
        return strength >= 1 && strength <= MOST_STRENGTH;
    }

    private static boolean isWeather(int number) {
        return number >= 0 && number <= MOST_WEATHER;
    }

    /** A rink between two strings, with the end that is played on it. */
    private static final class Rink {
        int first;
        int last;
        int wet;
        int casts;
        /** The length of the jack, or 0 if no end is played. */
        int jack;
        /** The club that begins the next end. */
        int starter;
        int turn;
        int closed;
        final int[] bowled;

        Rink() {
            bowled = new int[CLUBS];
        }

        void lay(int first, int last) {
            this.first = first;
            this.last = last;
            wet = 0;
            casts = 0;
            jack = 0;
            starter = 0;
            turn = 0;
            closed = 0;
            bowled[0] = 0;
            bowled[1] = 0;
        }

        void become(Rink other) {
            first = other.first;
            last = other.last;
            wet = other.wet;
            casts = other.casts;
            jack = other.jack;
            starter = other.starter;
            turn = other.turn;
            closed = other.closed;
            bowled[0] = other.bowled[0];
            bowled[1] = other.bowled[1];
        }

        boolean holds(int column) {
            return column >= first && column <= last;
        }

        boolean isPlayed() {
            return jack != 0;
        }

        void startEnd(int length) {
            jack = length;
            turn = starter;
            bowled[0] = 0;
            bowled[1] = 0;
        }

        void finishEnd() {
            jack = 0;
            turn = starter;
            closed++;
        }

        int distance(int column, int length) {
            int across = column - (first + last) / 2;
            int along = length - jack;
            return across * across + along * along;
        }

        int castsAfter(int castsBefore, int wetNow) {
            if (wetNow >= WET_FOR_CASTS && !isPlayed()) {
                return Math.min(MOST_CASTS, castsBefore + 1);
            }
            return castsBefore;
        }
    }

    /** A wood; its rink means something unless it is in the shed, its column, length and distance only if it lies. */
    private static final class Wood {
        int club;
        int bias;
        int state;
        int rink;
        int column;
        int length;
        /** Kept, as jack and strings stay where they are as long as the wood lies. */
        int distance;
        int bowled;

        void make(int club, int bias) {
            this.club = club;
            this.bias = bias;
            state = IN_SHED;
            rink = 0;
            column = 0;
            length = 0;
            distance = 0;
            bowled = 0;
        }

        void become(Wood other) {
            club = other.club;
            bias = other.bias;
            state = other.state;
            rink = other.rink;
            column = other.column;
            length = other.length;
            distance = other.distance;
            bowled = other.bowled;
        }

        boolean liesOn(int number) {
            return state == LIES && rink == number;
        }
    }

    private static final class Club {
        int shots;
        int ends;
        int coins;
        int teas;

        void reset() {
            shots = 0;
            ends = 0;
            coins = FIRST_COINS;
            teas = 0;
        }

        void become(Club other) {
            shots = other.shots;
            ends = other.ends;
            coins = other.coins;
            teas = other.teas;
        }
    }

    /** All that changes can change. */
    private static final class Green {
        final Rink[] rinks;
        final Wood[] woods;
        final Club[] clubs;
        int rinkCount;
        int woodCount;
        int hour;
        int rain;
        int sun;
        int cups;
        int drunk;
        int swept;

        Green() {
            rinks = new Rink[MOST_RINKS];
            for (int i = 0; i < MOST_RINKS; i++) {
                rinks[i] = new Rink();
            }
            woods = new Wood[MOST_WOODS];
            for (int i = 0; i < MOST_WOODS; i++) {
                woods[i] = new Wood();
            }
            clubs = new Club[CLUBS];
            for (int i = 0; i < CLUBS; i++) {
                clubs[i] = new Club();
            }
            reset();
        }

        void reset() {
            rinkCount = 0;
            woodCount = 0;
            clubs[0].reset();
            clubs[1].reset();
            hour = 0;
            rain = 1;
            sun = 2;
            cups = FIRST_CUPS;
            drunk = 0;
            swept = 0;
        }

        void become(Green other) {
            rinkCount = other.rinkCount;
            for (int i = 0; i < rinkCount; i++) {
                rinks[i].become(other.rinks[i]);
            }
            woodCount = other.woodCount;
            for (int i = 0; i < woodCount; i++) {
                woods[i].become(other.woods[i]);
            }
            clubs[0].become(other.clubs[0]);
            clubs[1].become(other.clubs[1]);
            hour = other.hour;
            rain = other.rain;
            sun = other.sun;
            cups = other.cups;
            drunk = other.drunk;
            swept = other.swept;
        }

        boolean isRink(int number) {
            return number >= 0 && number < rinkCount;
        }

        boolean isWood(int number) {
            return number >= 0 && number < woodCount;
        }

        int lowestRinkWithin(int first, int last) {
            for (int i = 0; i < rinkCount; i++) {
                if (rinks[i].first <= last && rinks[i].last >= first) {
                    return i;
                }
            }
            return NONE;
        }

        int rinkInOrder(int place) {
            for (int i = 0; i < rinkCount; i++) {
                int lower = 0;
                for (int j = 0; j < rinkCount; j++) {
                    if (rinks[j].first < rinks[i].first) {
                        lower++;
                    }
                }
                if (lower == place) {
                    return i;
                }
            }
            return NONE;
        }

        /** Where a wood comes to lie: 100 times its column, and its length; NOTHING if it is dead. */
        int landing(int rink, int wood, int column, int strength, boolean isRight) {
            Rink place = rinks[rink];
            int curve = woods[wood].bias * strength / 10;
            int end = isRight ? column + curve : column - curve;
            int length = Math.max(0, 4 + 2 * strength - place.wet / 2 - place.casts);
            if (!place.holds(end) || length > LAST_LENGTH) {
                return NOTHING;
            }
            for (int free = length; free >= 0; free--) {
                if (!isTaken(rink, wood, end, free)) {
                    return COLUMN_FACTOR * end + free;
                }
            }
            return NOTHING;
        }

        private boolean isTaken(int rink, int exceptWood, int column, int length) {
            for (int i = 0; i < woodCount; i++) {
                Wood other = woods[i];
                if (i != exceptWood && other.liesOn(rink) && other.column == column && other.length == length) {
                    return true;
                }
            }
            return false;
        }

        int woodInOrder(int rink, int place) {
            for (int i = 0; i < woodCount; i++) {
                if (woods[i].liesOn(rink) && woodsBefore(rink, i) == place) {
                    return i;
                }
            }
            return NOTHING;
        }

        private int woodsBefore(int rink, int wood) {
            int distance = woods[wood].distance;
            int count = 0;
            for (int i = 0; i < woodCount; i++) {
                Wood other = woods[i];
                boolean isBefore = other.distance < distance || (other.distance == distance && i < wood);
                if (isBefore && other.liesOn(rink)) {
                    count++;
                }
            }
            return count;
        }

        /** The shots, and 10 more if they are those of the club 1. */
        int countShots(int rink) {
            int leastOfZero = leastDistance(rink, 0);
            int leastOfOne = leastDistance(rink, 1);
            if (leastOfZero == leastOfOne) {
                return 0;
            }
            if (leastOfZero < leastOfOne) {
                return woodsNearerThan(rink, 0, leastOfOne);
            }
            return SHOTS_OF_CLUB_1 + woodsNearerThan(rink, 1, leastOfZero);
        }

        /** BEYOND if no wood of the club lies, so that all of the other club are nearer. */
        private int leastDistance(int rink, int club) {
            int least = BEYOND;
            for (int i = 0; i < woodCount; i++) {
                if (woods[i].club == club && woods[i].liesOn(rink)) {
                    least = Math.min(least, woods[i].distance);
                }
            }
            return least;
        }

        private int woodsNearerThan(int rink, int club, int limit) {
            int count = 0;
            for (int i = 0; i < woodCount; i++) {
                if (woods[i].club == club && woods[i].liesOn(rink) && woods[i].distance < limit) {
                    count++;
                }
            }
            return count;
        }

        /** The same as countShots, by taking the woods by their distances. */
        int countShotsInOrder(int rink) {
            int winner = NONE;
            int count = 0;
            for (int place = 0; place < woodCount; place++) {
                int next = woodInOrder(rink, place);
                if (!isWood(next)) {
                    break;
                }
                Wood wood = woods[next];
                if (place == 0) {
                    winner = wood.club;
                }
                if (wood.club != winner || isMatched(rink, wood)) {
                    break;
                }
                count++;
            }
            return count > 0 && winner == 1 ? SHOTS_OF_CLUB_1 + count : count;
        }

        private boolean isMatched(int rink, Wood wood) {
            for (int i = 0; i < woodCount; i++) {
                Wood other = woods[i];
                if (other.club != wood.club && other.liesOn(rink) && other.distance == wood.distance) {
                    return true;
                }
            }
            return false;
        }

        void bringWoodsToShed(int rink) {
            for (int i = 0; i < woodCount; i++) {
                if (woods[i].rink == rink) {
                    woods[i].state = IN_SHED;
                }
            }
        }

        int woodsOn(int rink, int state) {
            int count = 0;
            for (int i = 0; i < woodCount; i++) {
                if (woods[i].state == state && woods[i].rink == rink) {
                    count++;
                }
            }
            return count;
        }

        int woodsOfClub(int club) {
            int count = 0;
            for (int i = 0; i < woodCount; i++) {
                if (woods[i].club == club) {
                    count++;
                }
            }
            return count;
        }

        int woodsOfClubInShed(int club) {
            int count = 0;
            for (int i = 0; i < woodCount; i++) {
                if (woods[i].club == club && woods[i].state == IN_SHED) {
                    count++;
                }
            }
            return count;
        }

        int woodsInShed() {
            return woodsOfClubInShed(0) + woodsOfClubInShed(1);
        }

        int woodsBowled() {
            int sum = 0;
            for (int i = 0; i < woodCount; i++) {
                sum += woods[i].bowled;
            }
            return sum;
        }

        int endsPlayed() {
            int count = 0;
            for (int i = 0; i < rinkCount; i++) {
                if (rinks[i].isPlayed()) {
                    count++;
                }
            }
            return count;
        }

        int endsClosed() {
            int sum = 0;
            for (int i = 0; i < rinkCount; i++) {
                sum += rinks[i].closed;
            }
            return sum;
        }

        int allWet() {
            int sum = 0;
            for (int i = 0; i < rinkCount; i++) {
                sum += rinks[i].wet;
            }
            return sum;
        }

        int allCasts() {
            int sum = 0;
            for (int i = 0; i < rinkCount; i++) {
                sum += rinks[i].casts;
            }
            return sum;
        }

        void drink(int number) {
            cups -= number;
            drunk += number;
        }

        void passHour() {
            for (int i = 0; i < rinkCount; i++) {
                Rink rink = rinks[i];
                rink.wet = wetAfter(rink.wet);
                rink.casts = rink.castsAfter(rink.casts, rink.wet);
            }
            hour++;
        }

        private int wetAfter(int wet) {
            return Math.max(0, Math.min(MOST_WET, wet + rain - sun));
        }

        int wetAhead(int rink, int hours) {
            int wet = rinks[rink].wet;
            for (int i = 0; i < hours; i++) {
                wet = wetAfter(wet);
            }
            return wet;
        }

        int castsAhead(int rink, int hours) {
            int wet = rinks[rink].wet;
            int casts = rinks[rink].casts;
            for (int i = 0; i < hours; i++) {
                wet = wetAfter(wet);
                casts = rinks[rink].castsAfter(casts, wet);
            }
            return casts;
        }

        /** NONE if it would not be dry enough as far ahead as is looked. */
        int hoursUntilDry(int rink) {
            int wet = rinks[rink].wet;
            for (int hours = 0; hours <= MOST_HOURS_AHEAD; hours++) {
                if (wet < TOO_WET) {
                    return hours;
                }
                wet = wetAfter(wet);
            }
            return NONE;
        }
    }

    /** The greens before the latest changes, in a ring in which one place is always free for the next change. */
    private static final class Past {
        final Green[] greens;
        int free;
        int count;

        Past() {
            greens = new Green[PLACES_OF_PAST];
            for (int i = 0; i < PLACES_OF_PAST; i++) {
                greens[i] = new Green();
            }
        }

        void forget() {
            count = 0;
        }

        /** Copies a green into the free place, where it counts only after keep. */
        void note(Green green) {
            greens[free].become(green);
        }

        /** Makes a green as it was noted last, and not kept. */
        void putBack(Green green) {
            green.become(greens[free]);
        }

        void keep() {
            free = (free + 1) % PLACES_OF_PAST;
            count = Math.min(MOST_UNDONE, count + 1);
        }

        void takeBack(Green green) {
            free = (free + PLACES_OF_PAST - 1) % PLACES_OF_PAST;
            count--;
            green.become(greens[free]);
        }
    }

    /** The reasons of the latest refusal, the one that stands behind all others first. */
    private static final class Reasons {
        final int[] numbers;
        final int[] details;
        int count;

        Reasons() {
            numbers = new int[MOST_REASONS];
            details = new int[MOST_REASONS];
        }

        void empty() {
            count = 0;
        }

        void put(int number, int detail) {
            if (count < MOST_REASONS) {
                numbers[count] = number;
                details[count] = detail;
                count++;
            }
        }

        int tell(int depth, boolean isDetail) {
            if (depth >= count) {
                return NOTHING;
            }
            int index = count - 1 - depth;
            return isDetail ? details[index] : numbers[index];
        }
    }

    /** The orders of a text, each with its sign and its numbers, a side being 1 for the right. */
    private static final class Orders {
        final int[] signs;
        final int[] numbers;
        int count;
        /** Where the reading stands: at a fault, if there is one. */
        int position;

        Orders() {
            signs = new int[MOST_ORDERS];
            numbers = new int[MOST_ORDERS * NUMBERS_OF_ORDER];
        }

        int number(int order, int index) {
            return numbers[order * NUMBERS_OF_ORDER + index];
        }

        /** True if the text has no fault. */
        boolean read(StringBuilder text) {
            count = 0;
            position = 0;
            for (int order = 0; order < MOST_ORDERS; order++) {
                if (!readOrder(text, order)) {
                    return false;
                }
                count++;
                if (position == text.length()) {
                    return true;
                }
                if (!readSign(text, ';')) {
                    return false;
                }
            }
            return false;
        }

        private boolean readOrder(StringBuilder text, int order) {
            if (position >= text.length()) {
                return false;
            }
            signs[order] = text.charAt(position);
            String form = formOf(signs[order]);
            if (form.isEmpty()) {
                return false;
            }
            position++;
            int target = order * NUMBERS_OF_ORDER;
            for (int i = 0; i < form.length(); i++) {
                int part = form.charAt(i);
                if (!readPart(text, part, target)) {
                    return false;
                }
                if (isKept(part)) {
                    target++;
                }
            }
            return true;
        }

        /** What follows an order's sign: d a digit, n a number, + a side, else that very sign; empty for no order. */
        private static String formOf(int sign) {
            switch (sign) {
                case 'e':
                    return "d:n";
                case 'b':
                    return "d,n@n*n+";
                case 'c':
                case 'w':
                case 'r':
                case 's':
                case 't':
                    return "d";
                case 'h':
                    return "n";
                default:
                    return "";
            }
        }

        private static boolean isKept(int part) {
            return part == 'd' || part == 'n' || part == '+';
        }

        private boolean readPart(StringBuilder text, int part, int target) {
            switch (part) {
                case 'd':
                    return readDigits(text, 1, target);
                case 'n':
                    return readDigits(text, DIGITS_OF_NUMBER, target);
                case '+':
                    return readSide(text, target);
                default:
                    return readSign(text, part);
            }
        }

        private boolean readDigits(StringBuilder text, int most, int target) {
            int value = 0;
            int digits = 0;
            while (digits < most && position < text.length() && isDigit(text.charAt(position))) {
                value = 10 * value + text.charAt(position) - '0';
                position++;
                digits++;
            }
            numbers[target] = value;
            return digits > 0;
        }

        private static boolean isDigit(char character) {
            return character >= '0' && character <= '9';
        }

        private boolean readSide(StringBuilder text, int target) {
            if (readSign(text, '+')) {
                numbers[target] = 1;
                return true;
            }
            numbers[target] = 0;
            return readSign(text, '-');
        }

        private boolean readSign(StringBuilder text, int sign) {
            if (position >= text.length() || text.charAt(position) != sign) {
                return false;
            }
            position++;
            return true;
        }
    }
}
