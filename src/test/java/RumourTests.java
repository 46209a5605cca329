/** Promises 9 to 11 and 24 to 32: rumours, denials, and how an hour goes. */
public final class RumourTests {
    private static final Class<IndexOutOfBoundsException> NO_SUCH = IndexOutOfBoundsException.class;
    private static final Class<IllegalArgumentException> BAD = IllegalArgumentException.class;
    private static final Class<IllegalStateException> REFUSED = IllegalStateException.class;

    public static void main(String[] args) {
        promise9StartRumour();
        promise9StartRumourRefuses();
        promise10StartDenial();
        promise10StartDenialRefuses();
        promise11PassHours();
        promise11ReachEndsIt();
        promise11StayByThen();
        promise11PipesByThen();
        promise11DenialGoesAfterHalfTheStay();
        promise11DenialStopsTheRumour();
        promise11BothInOneHour();
        promise11FewestPipesOfThoseAtOnce();
        promise11FewestPipesFirst();
        promise11FirstOfSeveral();
        promise11DenialsFirstOfSeveral();
        promise11RumoursKeepApart();
        promises24And25OriginAndReach();
        promises26To29OnFloors();
        promises30And31Counts();
        promise32UnderWay();
        promises24To32Refuse();
        Check.end();
    }

    private static void promise9StartRumour() {
        RumourPipes x = new RumourPipes();
        x.passHours(4);
        for (int i = 0; i < 8; i++) {
            Check.same("startRumour", i, x.startRumour(i % 6, 1 + i));
            Check.same("it comes at once", 1, x.stateOf(i, i % 6));
            Check.same("in this hour", 4, x.heardAt(i, i % 6));
            Check.same("by no pipe", 0, x.pipesTo(i, i % 6));
            Check.same("to one floor", 1, x.reached(i));
            Check.same("nothing is under way yet", 0, x.underWay(i));
        }
        Check.same("reach 20", 20, reachOfNew(20));
        Check.same("reach 1", 1, reachOfNew(1));
    }

    private static int reachOfNew(int reach) {
        RumourPipes x = new RumourPipes();
        return x.reachOf(x.startRumour(5, reach));
    }

    private static void promise9StartRumourRefuses() {
        RumourPipes x = new RumourPipes();
        for (int wrong : new int[] {-1, 6, Integer.MIN_VALUE, Integer.MAX_VALUE}) {
            Check.refuses("startRumour on " + wrong, x, NO_SUCH, () -> x.startRumour(wrong, 1));
            Check.refuses("startRumour on " + wrong + ", both wrong", x, NO_SUCH, () -> x.startRumour(wrong, 0));
        }
        Check.refuses("startRumour, reach 0", x, BAD, () -> x.startRumour(0, 0));
        Check.refuses("startRumour, reach 21", x, BAD, () -> x.startRumour(0, 21));
        for (int i = 0; i < 8; i++) {
            x.startRumour(0, 1);
        }
        Check.refuses("startRumour, a ninth", x, REFUSED, () -> x.startRumour(0, 1));
        Check.refuses("startRumour, a ninth, floor wrong", x, NO_SUCH, () -> x.startRumour(6, 1));
        Check.refuses("startRumour, a ninth, reach wrong", x, BAD, () -> x.startRumour(0, 21));
    }

    private static void promise10StartDenial() {
        RumourPipes x = new RumourPipes();
        x.setHeads(0, 37);
        x.startRumour(0, 20);
        x.passHours(1);
        Check.same("startDenial where it is believed", 37, x.startDenial(0, 0));
        Check.same("state then", 2, x.stateOf(0, 0));
        Check.same("denied in this hour", 1, x.deniedAt(0, 0));
        Check.same("heard all the same", 0, x.heardAt(0, 0));
        Check.same("startDenial where it is not known", 0, x.startDenial(0, 3));
        Check.same("state there", 2, x.stateOf(0, 3));
        Check.same("not heard there", -1, x.heardAt(0, 3));
        Check.same("the rumour is not told on any more", 0, x.passHours(60));
        Check.same("reached", 1, x.reached(0));
    }

    private static void promise10StartDenialRefuses() {
        RumourPipes x = new RumourPipes();
        Check.refuses("startDenial of no rumour", x, NO_SUCH, () -> x.startDenial(0, 0));
        x.startRumour(0, 20);
        x.startRumour(0, 20);
        x.startDenial(0, 1);
        for (int wrong : new int[] {-1, 6, Integer.MIN_VALUE, Integer.MAX_VALUE}) {
            Check.refuses("startDenial of " + wrong, x, NO_SUCH, () -> x.startDenial(wrong, 1));
            Check.refuses("startDenial on " + wrong, x, NO_SUCH, () -> x.startDenial(0, wrong));
        }
        Check.refuses("startDenial of 2 of 2", x, NO_SUCH, () -> x.startDenial(2, 1));
        Check.refuses("startDenial again", x, REFUSED, () -> x.startDenial(0, 1));
        Check.same("startDenial of another rumour", 0, x.startDenial(1, 1));
        x.passHours(20);
        Check.refuses("startDenial where a denial came", x, REFUSED, () -> x.startDenial(0, 2));
    }

    private static void promise11PassHours() {
        RumourPipes x = new RumourPipes();
        x.startRumour(0, 20);
        Check.same("till the hour 5", 0, x.passHours(5));
        Check.same("hours", 5, x.hours());
        Check.same("not in the hour 4", 0, x.stateOf(0, 1));
        Check.same("in the hour 5", 1, x.passHours(1));
        Check.same("heardAt 1", 5, x.heardAt(0, 1));
        Check.same("in the hours 6 to 15", 2, x.passHours(10));
        Check.same("heardAt 3", 15, x.heardAt(0, 3));
        Check.same("to the end", 2, x.passHours(60));
        Check.same("heardAt 5", 25, x.heardAt(0, 5));
        Check.same("pipesTo 5", 5, x.pipesTo(0, 5));
        Check.same("hours then", 76, x.hours());
        for (int wrong : new int[] {0, 61, -1, Integer.MIN_VALUE, Integer.MAX_VALUE}) {
            Check.refuses("passHours " + wrong, x, BAD, () -> x.passHours(wrong));
        }
    }

    private static void promise11ReachEndsIt() {
        RumourPipes x = new RumourPipes();
        x.startRumour(0, 2);
        x.startRumour(0, 1);
        Check.same("three floors by two rumours", 3, x.passHours(60));
        Check.same("reach 2: floor 2", 10, x.heardAt(0, 2));
        Check.same("reach 2: floor 3", -1, x.heardAt(0, 3));
        Check.same("reach 1: floor 1", 5, x.heardAt(1, 1));
        Check.same("reach 1: floor 2", -1, x.heardAt(1, 2));
    }

    private static void promise11StayByThen() {
        RumourPipes x = new RumourPipes();
        x.setStay(0, 0);
        x.setStay(1, 4);
        x.startRumour(0, 20);
        x.setStay(0, 9);
        x.passHours(4);
        x.setStay(1, 0);
        x.passHours(30);
        Check.same("told on in the hour it came", 3, x.heardAt(0, 1));
        Check.same("the stay is that of the hour it came", 10, x.heardAt(0, 2));
    }

    private static void promise11PipesByThen() {
        RumourPipes x = new RumourPipes();
        x.startRumour(2, 20);
        x.turnStairs(2);
        x.passHours(2);
        x.setStairs(1, 9);
        x.passHours(1);
        x.turnStairs(1);
        x.turnStairs(2);
        x.setStairs(1, 1);
        x.passHours(60);
        Check.same("what is under way comes, also if the pipe is shut, in its hours", 11, x.heardAt(0, 1));
        Check.same("and is told on", 16, x.heardAt(0, 0));
        Check.same("a pipe that is opened later is too late", -1, x.heardAt(0, 3));
    }

    private static void promise11DenialGoesAfterHalfTheStay() {
        RumourPipes x = new RumourPipes();
        x.setStay(3, 9);
        x.setStay(2, 1);
        x.startRumour(0, 1);
        x.startDenial(0, 3);
        x.setStay(3, 0);
        x.passHours(60);
        Check.same("half of 9 hours and 3", 7, x.deniedAt(0, 2));
        Check.same("half of 1 hour and 3", 10, x.deniedAt(0, 1));
        Check.same("half of 2 hours and 3", 14, x.deniedAt(0, 0));
        Check.same("up too", 7, x.deniedAt(0, 4));
        Check.same("a denial has no reach", 11, x.deniedAt(0, 5));
    }

    private static void promise11DenialStopsTheRumour() {
        for (int hours = 5; hours <= 6; hours++) {
            RumourPipes x = new RumourPipes();
            x.setStay(1, 5);
            x.setStay(2, 0);
            x.setStairs(1, hours);
            x.startRumour(1, 20);
            x.startDenial(0, 2);
            x.passHours(60);
            Check.same("the denial comes", hours, x.deniedAt(0, 1));
            Check.same("the rumour is told on just before it", hours == 5 ? -1 : 8, x.heardAt(0, 0));
        }
    }

    private static void promise11BothInOneHour() {
        RumourPipes x = new RumourPipes();
        x.setStay(1, 0);
        x.setStairs(1, 4);
        x.startRumour(0, 20);
        x.startDenial(0, 2);
        x.passHours(5);
        Check.same("it counts, though it is denied at once", 1, x.passHours(1));
        Check.same("heard", 5, x.heardAt(0, 1));
        Check.same("by a pipe", 1, x.pipesTo(0, 1));
        Check.same("denied", 5, x.deniedAt(0, 1));
        Check.same("state", 2, x.stateOf(0, 1));
        Check.same("reached", 2, x.reached(0));
        Check.same("believers", 10, x.believers(0));
        x.passHours(60);
        Check.same("the denial goes on at once", 8, x.deniedAt(0, 0));
    }

    private static void promise11FewestPipesOfThoseAtOnce() {
        RumourPipes x = new RumourPipes();
        for (int f = 0; f < 6; f++) {
            x.setStay(f, 0);
        }
        x.setStairs(0, 1);
        x.setStairs(1, 1);
        x.setStairs(2, 9);
        x.setStairs(3, 2);
        x.setStay(4, 6);
        x.addLift(0, 4, 4, 1);
        x.startRumour(0, 20);
        x.passHours(60);
        Check.same("both come in the hour 11", 11, x.heardAt(0, 3));
        Check.same("the later one went fewer pipes", 2, x.pipesTo(0, 3));
    }

    private static void promise11FewestPipesFirst() {
        RumourPipes x = new RumourPipes();
        x.setStay(0, 0);
        x.setStay(1, 0);
        x.setStairs(1, 4);
        x.addLift(0, 2, 2, 6);
        x.startRumour(0, 20);
        x.passHours(60);
        Check.same("both come in the hour 7", 7, x.heardAt(0, 2));
        Check.same("the earlier one went fewer pipes", 1, x.pipesTo(0, 2));
    }

    private static void promise11FirstOfSeveral() {
        RumourPipes x = new RumourPipes();
        x.setStay(0, 0);
        x.setStay(1, 0);
        x.setStay(2, 9);
        x.addLift(0, 2, 2, 9);
        x.startRumour(0, 20);
        x.passHours(6);
        Check.same("by two stairs before the lift", 1, x.passHours(1));
        Check.same("in the hour 6", 6, x.heardAt(0, 2));
        Check.same("by two pipes", 2, x.pipesTo(0, 2));
        Check.same("the one by lift is not kept", 0, x.underWay(0));
    }

    private static void promise11DenialsFirstOfSeveral() {
        RumourPipes x = new RumourPipes();
        x.setStay(0, 0);
        x.setStay(1, 0);
        x.setStay(2, 9);
        x.addLift(0, 2, 2, 9);
        x.startRumour(5, 1);
        x.startDenial(0, 5);
        x.turnStairs(4);
        x.startDenial(0, 0);
        x.passHours(4);
        Check.same("to the floors 0 in vain, and 2", 2, x.underWay(0));
        x.passHours(3);
        Check.same("by two stairs before the lift", 6, x.deniedAt(0, 2));
        Check.same("the one by lift is not kept", 0, x.underWay(0));
    }

    private static void promise11RumoursKeepApart() {
        RumourPipes x = new RumourPipes();
        x.startRumour(0, 20);
        x.startRumour(5, 20);
        x.startDenial(1, 4);
        x.passHours(60);
        Check.same("the first one goes on", 6, x.reached(0));
        Check.same("and is not denied", 60, x.believers(0));
        Check.same("the second one is stopped", 1, x.reached(1));
    }

    private static void promises24And25OriginAndReach() {
        RumourPipes x = new RumourPipes();
        x.startRumour(4, 7);
        x.startRumour(0, 12);
        x.passHours(60);
        Check.same("originOf 0", 4, x.originOf(0));
        Check.same("reachOf 0", 7, x.reachOf(0));
        Check.same("originOf 1", 0, x.originOf(1));
        Check.same("reachOf 1", 12, x.reachOf(1));
    }

    private static void promises26To29OnFloors() {
        RumourPipes x = new RumourPipes();
        x.startRumour(1, 20);
        x.startDenial(0, 5);
        x.passHours(6);
        int[] state = {1, 1, 1, 0, 2, 2};
        int[] heard = {5, 0, 5, -1, -1, -1};
        int[] denied = {-1, -1, -1, -1, 4, 0};
        int[] pipes = {1, 0, 1, -1, -1, -1};
        for (int f = 0; f < 6; f++) {
            Check.same("stateOf " + f, state[f], x.stateOf(0, f));
            Check.same("heardAt " + f, heard[f], x.heardAt(0, f));
            Check.same("deniedAt " + f, denied[f], x.deniedAt(0, f));
            Check.same("pipesTo " + f, pipes[f], x.pipesTo(0, f));
        }
        x.startDenial(0, 2);
        Check.same("heardAt stays behind a denial", 5, x.heardAt(0, 2));
        Check.same("pipesTo stays behind a denial", 1, x.pipesTo(0, 2));
        x.passHours(60);
        Check.same("a rumour comes in vain to a floor where it was denied", -1, x.heardAt(0, 3));
    }

    private static void promises30And31Counts() {
        RumourPipes x = new RumourPipes();
        x.setHeads(0, 5);
        x.setHeads(1, 0);
        x.setHeads(2, 99);
        x.startRumour(1, 20);
        Check.same("believers, no heads", 0, x.believers(0));
        x.passHours(6);
        Check.same("believers", 104, x.believers(0));
        Check.same("reached", 3, x.reached(0));
        x.setHeads(0, 6);
        Check.same("believers are the heads of now", 105, x.believers(0));
        x.startDenial(0, 2);
        Check.same("believers, denied on 2", 6, x.believers(0));
        Check.same("reached counts those as well", 3, x.reached(0));
    }

    private static void promise32UnderWay() {
        RumourPipes x = new RumourPipes();
        x.startRumour(1, 20);
        Check.same("not told on yet", 0, x.underWay(0));
        x.passHours(2);
        Check.same("to be told on in the hour 2", 0, x.underWay(0));
        x.passHours(1);
        Check.same("to 0 and 2", 2, x.underWay(0));
        x.startDenial(0, 1);
        x.passHours(1);
        Check.same("the denial is to be told on in the hour 4", 2, x.underWay(0));
        x.passHours(1);
        Check.same("both to 0 and 2, each floor counts once", 2, x.underWay(0));
        x.passHours(1);
        Check.same("denials to 0 and 2", 2, x.underWay(0));
        x.passHours(2);
        Check.same("denials come in the hour 7, and go on in the hour 8", 0, x.underWay(0));
        x.passHours(1);
        Check.same("to 1 in vain, and to 3", 2, x.underWay(0));
    }

    private static void promises24To32Refuse() {
        RumourPipes x = new RumourPipes();
        Check.refuses("originOf without one", x, NO_SUCH, () -> x.originOf(0));
        x.startRumour(0, 20);
        for (int wrong : new int[] {-1, 1, 8, Integer.MIN_VALUE, Integer.MAX_VALUE}) {
            Check.refuses("originOf " + wrong, x, NO_SUCH, () -> x.originOf(wrong));
            Check.refuses("reachOf " + wrong, x, NO_SUCH, () -> x.reachOf(wrong));
            Check.refuses("believers " + wrong, x, NO_SUCH, () -> x.believers(wrong));
            Check.refuses("reached " + wrong, x, NO_SUCH, () -> x.reached(wrong));
            Check.refuses("underWay " + wrong, x, NO_SUCH, () -> x.underWay(wrong));
            Check.refuses("stateOf rumour " + wrong, x, NO_SUCH, () -> x.stateOf(wrong, 0));
            Check.refuses("heardAt rumour " + wrong, x, NO_SUCH, () -> x.heardAt(wrong, 0));
            Check.refuses("deniedAt rumour " + wrong, x, NO_SUCH, () -> x.deniedAt(wrong, 0));
            Check.refuses("pipesTo rumour " + wrong, x, NO_SUCH, () -> x.pipesTo(wrong, 0));
        }
        for (int wrong : new int[] {-1, 6, Integer.MIN_VALUE, Integer.MAX_VALUE}) {
            Check.refuses("stateOf floor " + wrong, x, NO_SUCH, () -> x.stateOf(0, wrong));
            Check.refuses("heardAt floor " + wrong, x, NO_SUCH, () -> x.heardAt(0, wrong));
            Check.refuses("deniedAt floor " + wrong, x, NO_SUCH, () -> x.deniedAt(0, wrong));
            Check.refuses("pipesTo floor " + wrong, x, NO_SUCH, () -> x.pipesTo(0, wrong));
        }
    }
}
