import java.util.ArrayList;
import java.util.List;

/** What an object tells of itself, as lines such as "rinkOf(0, 2) = 3", at a cost of at most some 300 calls. */
final class Told {
    private final CountedGreen x;
    private final List<String> lines = new ArrayList<>();

    private Told(CountedGreen x) {
        this.x = x;
    }

    /** All that changes can change. */
    static List<String> green(CountedGreen x) {
        Told told = new Told(x);
        told.accounts();
        told.rinks();
        told.woods();
        told.clubs();
        return told.lines;
    }

    /** All that can be told, also what is neither undone nor saved. */
    static List<String> all(CountedGreen x) {
        Told told = new Told(x);
        told.lines.addAll(green(x));
        told.add("account(13)", x.account(13));
        told.add("account(14)", x.account(14));
        told.add("fault()", x.fault());
        told.lines.add("reasons " + Check.reasons(x));
        told.lines.add("line " + Check.line(x));
        return told.lines;
    }

    /** Answers to changes that show what no call tells: who has bowled how many woods in an end, and who won the latest. */
    static List<String> goneOn(CountedGreen x) {
        Told told = new Told(x);
        int rinks = x.account(3);
        int woods = x.account(4);
        for (int rink = 0; rink < rinks; rink++) {
            int first = x.rinkOf(rink, 0);
            for (int wood = 0; wood < woods; wood++) {
                told.add("bowl(" + rink + ", " + wood + ", " + first + ", 5, true)", x.bowl(rink, wood, first, 5, true));
            }
            told.add("close(" + rink + ")", x.close(rink));
            told.add("rinkOf(" + rink + ", 5)", x.rinkOf(rink, 5));
        }
        return told.lines;
    }

    private void add(String call, int answer) {
        lines.add(call + " = " + answer);
    }

    private void accounts() {
        for (int what = 0; what <= 12; what++) {
            add("account(" + what + ")", x.account(what));
        }
        add("leader()", x.leader());
    }

    /** One place more than there is, so that a rink that should not be there shows. */
    private void rinks() {
        int rinks = x.account(3);
        for (int rink = 0; rink <= rinks; rink++) {
            int last = rink < rinks ? 8 : 0;
            for (int what = 0; what <= last; what++) {
                add("rinkOf(" + rink + ", " + what + ")", x.rinkOf(rink, what));
            }
            add("rinkAt(" + rink + ")", x.rinkAt(rink));
            add("nearest(" + rink + ", 0)", x.nearest(rink, 0));
            add("shots(" + rink + ", true)", x.shots(rink, true));
        }
    }

    private void woods() {
        int woods = x.account(4);
        for (int wood = 0; wood <= woods; wood++) {
            int last = wood < woods ? 7 : 0;
            for (int what = 0; what <= last; what++) {
                add("woodOf(" + wood + ", " + what + ")", x.woodOf(wood, what));
            }
        }
    }

    private void clubs() {
        for (int club = 0; club < 2; club++) {
            for (int what = 0; what <= 5; what++) {
                add("clubOf(" + club + ", " + what + ")", x.clubOf(club, what));
            }
        }
    }
}
