/** A BowlsGreen that counts its calls: the document says nothing of an object after its 512th call, so no test goes there. */
final class CountedGreen {
    static final int MOST_CALLS = 512;

    private final BowlsGreen green = new BowlsGreen();
    private int calls;

    int calls() {
        return calls;
    }

    private BowlsGreen counted() {
        calls++;
        if (calls > MOST_CALLS) {
            throw new IllegalStateException("a test makes more than " + MOST_CALLS + " calls of one object");
        }
        return green;
    }

    int clear() {
        return counted().clear();
    }

    int append(char character) {
        return counted().append(character);
    }

    int rink(int first, int last) {
        return counted().rink(first, last);
    }

    int wood(int club, int bias) {
        return counted().wood(club, bias);
    }

    int begin(int rink, int length) {
        return counted().begin(rink, length);
    }

    int bowl(int rink, int wood, int column, int strength, boolean isRight) {
        return counted().bowl(rink, wood, column, strength, isRight);
    }

    int close(int rink) {
        return counted().close(rink);
    }

    int sweep(int rink) {
        return counted().sweep(rink);
    }

    int rain(int rain) {
        return counted().rain(rain);
    }

    int sun(int sun) {
        return counted().sun(sun);
    }

    int brew(int cups) {
        return counted().brew(cups);
    }

    int tea(int club) {
        return counted().tea(club);
    }

    int hour(int hours) {
        return counted().hour(hours);
    }

    int script() {
        return counted().script();
    }

    int fault() {
        return counted().fault();
    }

    int reason(int depth, boolean isDetail) {
        return counted().reason(depth, isDetail);
    }

    int rinkOf(int rink, int what) {
        return counted().rinkOf(rink, what);
    }

    int woodOf(int wood, int what) {
        return counted().woodOf(wood, what);
    }

    int clubOf(int club, int what) {
        return counted().clubOf(club, what);
    }

    int rinkAt(int place) {
        return counted().rinkAt(place);
    }

    int nearest(int rink, int place) {
        return counted().nearest(rink, place);
    }

    int shots(int rink, boolean isAgain) {
        return counted().shots(rink, isAgain);
    }

    int would(int rink, int wood, int column, int strength, boolean isRight) {
        return counted().would(rink, wood, column, strength, isRight);
    }

    int bestStrength(int rink, int wood, int column, boolean isRight) {
        return counted().bestStrength(rink, wood, column, isRight);
    }

    int wetIn(int rink, int hours) {
        return counted().wetIn(rink, hours);
    }

    int castsIn(int rink, int hours) {
        return counted().castsIn(rink, hours);
    }

    int dryIn(int rink) {
        return counted().dryIn(rink);
    }

    int leader() {
        return counted().leader();
    }

    int describe(int rink) {
        return counted().describe(rink);
    }

    int written(int index) {
        return counted().written(index);
    }

    float meanWet() {
        return counted().meanWet();
    }

    double winShare() {
        return counted().winShare();
    }

    int account(int what) {
        return counted().account(what);
    }

    int undo() {
        return counted().undo();
    }

    int save() {
        return counted().save();
    }

    int restore() {
        return counted().restore();
    }
}
