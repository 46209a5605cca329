/** Edges of the terms of rumours and hours, and of promises 9 to 11 and 24 to 32; each test below its sentence. */
public final class RumourEdgeTests {
    public static void main(String[] args) {
        termsReach();
        termsReachIsOnePipeBehindTheOther();
        termsDenialHasNoReach();
        termsComesInVainWhereItIsBelieved();
        termsComesInVainWhereItWasDenied();
        termsStay();
        termsStayByThen();
        termsDenialComesInVainWhereItWasDenied();
        termsDenialComesWhereNothingIsKnown();
        termsHalfOfTheStay();
        termsHalfOfTheStayByThen();
        termsNotToldOnAnyMore();
        termsDenialInTheHourOfTelling();
        termsToEachOtherFloor();
        termsToNoOtherFloor();
        termsPipeOfTheHourOfTelling();
        termsHoursUnderWay();
        termsShutMeanwhile();
        termsLaterOneComesFirst();
        termsLaterOneComesLater();
        termsNotAtTheSameTime();
        termsFewestPipesOfThoseAtOnce();
        termsOfAKind();
        hourFirstRumoursThenDenials();
        hourTellsOnWhatCameInIt();
        hourForEachRumour();
        promise9Floors();
        promise9Reach();
        promise9Eight();
        promise9Order();
        promise9AtOnce();
        promise10Numbers();
        promise10HowManyHeads();
        promise10DeniedAlready();
        promise10AtOnce();
        promise11Hours();
        promise11FirstAndLastHour();
        promise11HowOften();
        promise11InVainOrDenied();
        promise11AtOnceOrOneByOne();
        promise24();
        promise25();
        promise26();
        promise27();
        promise28();
        promise29();
        promise30();
        promise31();
        promise32();
        promise32InVain();
        Check.end();
    }

    private static RumourPipes tower(int floors) {
        RumourPipes x = new RumourPipes();
        x.build(floors);
        return x;
    }

    /** A rumour goes a floor farther in each hour. */
    private static RumourPipes quickTower(int floors) {
        RumourPipes x = tower(floors);
        for (int f = 0; f < floors; f++) {
            x.setStay(f, 0);
        }
        for (int f = 0; f < floors - 1; f++) {
            x.setStairs(f, 1);
        }
        return x;
    }

    // "each has a reach, 1 to 20: so many pipes it goes at the most"
    private static void termsReach() {
        for (int reach = 1; reach <= 20; reach++) {
            RumourPipes x = quickTower(12);
            x.startRumour(0, reach);
            Check.same("news with reach " + reach, Math.min(reach, 11), x.passHours(60));
            int last = Math.min(reach, 11);
            Check.same("the last floor with reach " + reach, last, x.pipesTo(0, last));
            if (last < 11) {
                Check.same("the next floor with reach " + reach, 0, x.stateOf(0, last + 1));
            }
        }
    }

    // "one behind the other"
    private static void termsReachIsOnePipeBehindTheOther() {
        RumourPipes x = quickTower(12);
        x.startRumour(5, 4);
        Check.same("reach 4 up and reach 4 down", 8, x.passHours(60));
        Check.same("the lowest one", 1, x.stateOf(0, 1));
        Check.same("too low", 0, x.stateOf(0, 0));
        Check.same("the highest one", 1, x.stateOf(0, 9));
        Check.same("too high", 0, x.stateOf(0, 10));
    }

    // "a rumour only, if it went fewer pipes so far than its reach"
    private static void termsDenialHasNoReach() {
        RumourPipes x = quickTower(12);
        x.startRumour(0, 1);
        x.startDenial(0, 0);
        x.passHours(60);
        Check.same("the denial goes all pipes", 11, x.deniedAt(0, 11));
    }

    // "A rumour comes to a floor, if that is in the state 0 .. To others it comes in vain."
    private static void termsComesInVainWhereItIsBelieved() {
        RumourPipes x = tower(2);
        x.startRumour(0, 20);
        x.passHours(10);
        Check.same("it is under way back", 1, x.underWay(0));
        Check.same("no news", 0, x.passHours(1));
        Check.same("heardAt is as before", 0, x.heardAt(0, 0));
        Check.same("pipesTo is as before", 0, x.pipesTo(0, 0));
        Check.same("it is not told on again", 0, x.quietIn(0));
        x.passHours(2);
        Check.same("nothing is under way again", 0, x.underWay(0));
    }

    // "A rumour comes to a floor, if that is in the state 0 .. To others it comes in vain."
    private static void termsComesInVainWhereItWasDenied() {
        RumourPipes x = tower(2);
        x.setStay(1, 9);
        x.setStay(0, 0);
        x.startRumour(0, 20);
        x.startDenial(0, 1);
        x.passHours(3);
        Check.same("no news", 0, x.passHours(1));
        Check.same("the state stays", 2, x.stateOf(0, 1));
        Check.same("not heard", -1, x.heardAt(0, 1));
        Check.same("by no pipes", -1, x.pipesTo(0, 1));
        Check.same("just the denial is to be told on in the hour 4, and comes in the hour 7, and back in the hour 10",
            7, x.quietIn(0));
    }

    // "on each .. a rumour stays for some hours, 0 to 9"; "it is told on as many hours later as it stays there"
    private static void termsStay() {
        for (int stay = 0; stay <= 9; stay++) {
            RumourPipes x = tower(2);
            x.setStay(0, stay);
            x.startRumour(0, 20);
            Check.same("stay " + stay + ", before it comes", 0, x.passHours(stay + 3));
            Check.same("stay " + stay + ", when it comes", 1, x.passHours(1));
            Check.same("stay " + stay, stay + 3, x.heardAt(0, 1));
        }
    }

    // "by then"
    private static void termsStayByThen() {
        RumourPipes x = tower(3);
        x.startRumour(0, 20);
        x.passHours(5);
        x.setStay(1, 9);
        x.passHours(1);
        x.setStay(1, 0);
        x.passHours(20);
        Check.same("the stay of the hour in which it came", 5 + 9 + 3, x.heardAt(0, 2));
    }

    // "A denial comes to a floor, if its state is not 2"
    private static void termsDenialComesInVainWhereItWasDenied() {
        RumourPipes x = tower(2);
        x.startRumour(0, 1);
        x.startDenial(0, 0);
        x.passHours(8);
        Check.same("it is under way back", 1, x.underWay(0));
        x.passHours(1);
        Check.same("deniedAt is as before", 0, x.deniedAt(0, 0));
        Check.same("it is not told on again", 0, x.quietIn(0));
    }

    // "A denial comes to a floor, if its state is not 2: the state is 2 then, and the denial is told on"
    private static void termsDenialComesWhereNothingIsKnown() {
        RumourPipes x = tower(4);
        x.turnStairs(0);
        x.startRumour(0, 20);
        x.startDenial(0, 1);
        x.passHours(5);
        Check.same("it came where the rumour did not", 2, x.stateOf(0, 2));
        Check.same("in the hour 4", 4, x.deniedAt(0, 2));
        x.passHours(4);
        Check.same("and goes on from there", 8, x.deniedAt(0, 3));
        Check.same("the rumour never came", -1, x.heardAt(0, 2));
        Check.same("shut off from it", 1, x.stateOf(0, 0));
    }

    // "half of the hours later that a rumour stays there"; "/ is cut towards 0"
    private static void termsHalfOfTheStay() {
        int[] half = {0, 0, 1, 1, 2, 2, 3, 3, 4, 4};
        for (int stay = 0; stay <= 9; stay++) {
            RumourPipes x = tower(2);
            x.setStay(0, stay);
            x.startRumour(1, 1);
            x.startDenial(0, 0);
            x.passHours(half[stay] + 3);
            Check.same("half of stay " + stay + ", before it comes", -1, x.deniedAt(0, 1));
            x.passHours(1);
            Check.same("half of stay " + stay, half[stay] + 3, x.deniedAt(0, 1));
        }
    }

    // "by then"
    private static void termsHalfOfTheStayByThen() {
        RumourPipes x = tower(3);
        x.startRumour(0, 1);
        x.startDenial(0, 0);
        x.passHours(4);
        x.setStay(1, 9);
        x.passHours(1);
        x.setStay(1, 0);
        x.passHours(20);
        Check.same("half of the stay of the hour in which it came", 4 + 4 + 3, x.deniedAt(0, 2));
    }

    // "the rumour is not told on any more from there"
    private static void termsNotToldOnAnyMore() {
        for (int hours = 2; hours <= 3; hours++) {
            RumourPipes x = tower(2);
            x.startRumour(0, 20);
            x.passHours(hours);
            x.startDenial(0, 0);
            Check.same("denied before or behind the hour 2", hours == 2 ? 0 : 1, x.passHours(20));
        }
        RumourPipes x = tower(2);
        x.setStay(0, 0);
        x.startRumour(0, 20);
        x.startDenial(0, 0);
        Check.same("denied at once", 0, x.passHours(20));
    }

    // "1. What comes in this hour comes to its floors .. 2. Each floor .. tells on what it has to in this hour"
    private static void termsDenialInTheHourOfTelling() {
        for (int stairs = 1; stairs <= 3; stairs++) {
            RumourPipes x = tower(3);
            x.setStay(2, 0);
            x.setStairs(1, stairs);
            x.startRumour(1, 20);
            x.startDenial(0, 2);
            x.passHours(20);
            Check.same("the denial comes", stairs, x.deniedAt(0, 1));
            Check.same("the rumour is told on in the hour 2, if it is not denied then", stairs == 3 ? 5 : -1,
                x.heardAt(0, 0));
        }
    }

    // "What is told on goes by the pipe between both to each other floor to which there is one"
    private static void termsToEachOtherFloor() {
        RumourPipes x = tower(12);
        x.addLift(0, 11, 1, 9);
        x.startRumour(5, 20);
        x.passHours(3);
        Check.same("to all but itself", 11, x.underWay(0));
        x.passHours(14);
        for (int f = 0; f < 12; f++) {
            Check.is("it came to " + f, x.stateOf(0, f) == 1);
        }
    }

    // "to which there is one"
    private static void termsToNoOtherFloor() {
        RumourPipes x = tower(2);
        x.turnStairs(0);
        x.startRumour(0, 20);
        x.startDenial(0, 1);
        x.passHours(2);
        Check.same("just the rumour is to be told on yet", 1, x.quietIn(0));
        x.passHours(1);
        Check.same("to nobody", 0, x.underWay(0));
        Check.same("nor later", 0, x.quietIn(0));
        x.turnStairs(0);
        Check.same("nor when it is open again", 0, x.passHours(60));
    }

    // "The pipe between two floors: of all that lead from the one to the other, open or running now"
    private static void termsPipeOfTheHourOfTelling() {
        RumourPipes x = tower(2);
        x.startRumour(0, 20);
        x.turnStairs(0);
        x.passHours(2);
        x.turnStairs(0);
        x.setStairs(0, 9);
        x.passHours(1);
        x.setStairs(0, 1);
        Check.same("open in the hour in which it is told on, and so long then", 11, x.wouldHear(0, 1));
    }

    // "It is under way for the hours of the pipe"
    private static void termsHoursUnderWay() {
        RumourPipes x = quickTower(2);
        x.startRumour(0, 1);
        x.passHours(1);
        Check.same("the shortest pipe: under way", 1, x.underWay(0));
        Check.same("the shortest pipe: it comes", 1, x.passHours(1));
        Check.same("the shortest pipe: in the hour 1", 1, x.heardAt(0, 1));
        x = tower(12);
        x.addLift(0, 11, 11, 9);
        x.setStay(0, 0);
        x.turnStairs(0);
        x.startRumour(0, 1);
        Check.same("the longest pipe: not before the hour 14", 0, x.passHours(14));
        Check.same("the longest pipe: it comes", 1, x.passHours(1));
        Check.same("the longest pipe: in the hour 14", 14, x.heardAt(0, 11));
    }

    // "and comes, also if that is shut meanwhile"
    private static void termsShutMeanwhile() {
        RumourPipes x = tower(3);
        x.addLift(0, 2, 2, 9);
        x.startRumour(0, 1);
        x.startRumour(2, 1);
        x.startDenial(1, 2);
        x.passHours(3);
        x.turnStairs(0);
        x.turnStairs(1);
        x.turnLift(0);
        Check.same("two by stairs and lift", 2, x.passHours(60));
        Check.same("by stairs", 5, x.heardAt(0, 1));
        Check.same("by lift", 12, x.heardAt(0, 2));
        Check.same("a denial by stairs", 4, x.deniedAt(1, 1));
        Check.same("a denial by lift", 11, x.deniedAt(1, 0));
    }

    /** The rumour goes from 0 to 2 by a lift, and over 1 by stairs. */
    private static RumourPipes twoWays(int waits, int stayOnOne, int upperStairs) {
        RumourPipes x = tower(3);
        x.setStay(0, 0);
        x.setStay(1, stayOnOne);
        x.setStay(2, 9);
        x.setStairs(1, upperStairs);
        x.addLift(0, 2, 2, waits);
        return x;
    }

    // "Of several of a kind that are under way to a floor at the same time only the one that comes first is kept"
    private static void termsLaterOneComesFirst() {
        RumourPipes x = twoWays(9, 0, 3);
        x.startRumour(0, 20);
        x.startRumour(2, 1);
        x.startDenial(1, 0);
        x.passHours(7);
        Check.same("by stairs in the hour 6, not by lift in the hour 10", 6, x.heardAt(0, 2));
        Check.same("by two pipes", 2, x.pipesTo(0, 2));
        Check.same("the one by lift is not kept", 0, x.underWay(0));
        Check.same("the denial by stairs in the hour 6", 6, x.deniedAt(1, 2));
        Check.same("the denial by lift is not kept", 0, x.underWay(1));
    }

    // "only the one that comes first is kept"
    private static void termsLaterOneComesLater() {
        RumourPipes x = twoWays(3, 0, 9);
        x.startRumour(0, 20);
        x.startRumour(1, 1);
        x.startDenial(1, 0);
        x.passHours(7);
        Check.same("by lift in the hour 4, not by stairs in the hour 12", 4, x.heardAt(0, 2));
        Check.same("by a pipe", 1, x.pipesTo(0, 2));
        Check.same("the one by stairs is not kept", 0, x.underWay(0));
        Check.same("the denial by lift in the hour 4", 4, x.deniedAt(1, 2));
        x.passHours(4);
        Check.same("the denial by stairs is not kept; back from 2 it is under way to 0 and 1", 2, x.underWay(1));
        Check.same("and comes to 0 in the hour 12, to 1 in the hour 17", 7, x.quietIn(1));
    }

    // "at the same time"
    private static void termsNotAtTheSameTime() {
        RumourPipes x = twoWays(3, 1, 9);
        x.startRumour(0, 20);
        x.passHours(8);
        Check.same("the one by lift came in the hour 4", 4, x.heardAt(0, 2));
        Check.same("so the one of the hour 4 is kept, to come in vain", 1, x.underWay(0));
        x.passHours(5);
        Check.same("in the hour 13", 13, x.hours());
        Check.same("it is under way till then", 1, x.underWay(0));
    }

    // "of those that come at once that which went the fewest pipes"
    private static void termsFewestPipesOfThoseAtOnce() {
        RumourPipes x = twoWays(5, 0, 3);
        x.startRumour(0, 20);
        x.passHours(7);
        Check.same("both in the hour 6", 6, x.heardAt(0, 2));
        Check.same("the one that went fewer pipes was told on first", 1, x.pipesTo(0, 2));
        x = tower(5);
        for (int f = 0; f < 5; f++) {
            x.setStay(f, f == 3 ? 6 : 0);
        }
        x.setStairs(0, 1);
        x.setStairs(1, 9);
        x.addLift(0, 3, 3, 2);
        x.addLift(2, 3, 1, 1);
        x.startRumour(0, 20);
        x.passHours(11);
        Check.same("over 1 and over 3 in the hour 10", 10, x.heardAt(0, 2));
        Check.same("as many pipes", 2, x.pipesTo(0, 2));
        x = lateButFewer();
        x.passHours(12);
        Check.same("in the hour 11", 11, x.heardAt(0, 3));
        Check.same("the one that went fewer pipes was told on last", 2, x.pipesTo(0, 3));
        x.passHours(20);
        Check.same("what goes on from there counts from these", 3, x.pipesTo(0, 5));
    }

    /** From 0 to 3 over 1 and 2 by stairs, told on in the hour 2, and over 4 by a lift, told on in the hour 9. */
    private static RumourPipes lateButFewer() {
        RumourPipes x = new RumourPipes();
        for (int f = 0; f < 6; f++) {
            x.setStay(f, f == 4 ? 6 : 0);
        }
        x.setStairs(0, 1);
        x.setStairs(1, 1);
        x.setStairs(2, 9);
        x.setStairs(3, 2);
        x.turnStairs(4);
        x.addLift(0, 4, 4, 1);
        x.addLift(3, 5, 2, 1);
        x.startRumour(0, 3);
        return x;
    }

    // "Of several of a kind"
    private static void termsOfAKind() {
        RumourPipes x = tower(3);
        x.startRumour(0, 20);
        x.passHours(3);
        x.startDenial(0, 2);
        Check.same("the rumour comes in the hour 5, the denial in the hour 7", 1, x.passHours(5));
        Check.same("the rumour came", 5, x.heardAt(0, 1));
        Check.same("the denial came", 7, x.deniedAt(0, 1));
    }

    // "1. What comes in this hour comes to its floors: first rumours, then denials."
    private static void hourFirstRumoursThenDenials() {
        RumourPipes x = tower(3);
        x.setStay(1, 0);
        x.setStairs(1, 4);
        x.startRumour(0, 20);
        x.startDenial(0, 2);
        x.passHours(5);
        Check.same("both come in the hour 5", 1, x.underWay(0));
        Check.same("it counts as news", 1, x.passHours(1));
        Check.same("heard", 5, x.heardAt(0, 1));
        Check.same("denied", 5, x.deniedAt(0, 1));
        Check.same("the state is that of the denial", 2, x.stateOf(0, 1));
        Check.same("the denial alone is told on", 5 + 3, deniedOnNought(x));
        Check.same("the rumour went nowhere", 0, x.underWay(0));
    }

    private static int deniedOnNought(RumourPipes x) {
        x.passHours(10);
        return x.deniedAt(0, 0);
    }

    // "2. Each floor, by numbers, tells on what it has to in this hour"
    private static void hourTellsOnWhatCameInIt() {
        RumourPipes x = quickTower(3);
        x.startRumour(2, 20);
        x.passHours(1);
        Check.same("told on in the hour of the start", 1, x.underWay(0));
        x.passHours(1);
        Check.same("told on in the hour in which it came, up and down", 2, x.underWay(0));
        x.passHours(1);
        Check.same("a floor farther in each hour", 2, x.heardAt(0, 0));
    }

    // "An hour goes like this, for each rumour"; "Then the hour is 1 greater."
    private static void hourForEachRumour() {
        RumourPipes x = quickTower(12);
        for (int i = 0; i < 8; i++) {
            x.startRumour(i, 20);
        }
        Check.same("news in the hour 0", 0, x.passHours(1));
        Check.same("the hour is 1", 1, x.hours());
        Check.same("news in the hour 1", 15, x.passHours(1));
        Check.same("the hour is 2", 2, x.hours());
        for (int i = 0; i < 8; i++) {
            Check.same("rumour " + i + " went up", 1, x.heardAt(i, i + 1));
            Check.same("rumour " + i + " went no farther", -1, x.heardAt(i, i + 2));
        }
    }

    // "Throws IndexOutOfBoundsException if there is no such floor"
    private static void promise9Floors() {
        Edges.takesFloors("startRumour on", (x, floor) -> x.startRumour(floor, 20));
    }

    // "Throws IllegalArgumentException if reach is not 1 to 20"
    private static void promise9Reach() {
        Edges.takesNumbers("startRumour, reach", Edges::busyTower, 1, 20, Edges.BAD,
            (x, reach) -> x.startRumour(2, reach));
    }

    // "Throws IllegalStateException if there are 8"; "At most 8, numbered from 0"; "Returns its number."
    private static void promise9Eight() {
        RumourPipes x = new RumourPipes();
        for (int i = 0; i < 8; i++) {
            Check.same("startRumour returns its number", i, x.startRumour(0, 1));
        }
        Edges.refuses("startRumour, a ninth", Edges::fullTower, Edges.REFUSED, y -> y.startRumour(0, 1));
    }

    // "If several exceptions apply, the one that is named first is thrown."
    private static void promise9Order() {
        for (int floor : new int[] {-1, 3}) {
            for (int reach : new int[] {0, 1, 20, 21}) {
                Edges.refuses("startRumour, floor and more wrong", Edges::busyTower, Edges.NO_SUCH,
                    x -> x.startRumour(floor, reach));
                Edges.refuses("startRumour, floor and more wrong, and there are 8", Edges::fullTower, Edges.NO_SUCH,
                    x -> x.startRumour(floor, reach));
            }
        }
        for (int reach : new int[] {0, 21}) {
            Edges.refuses("startRumour, reach wrong, and there are 8", Edges::fullTower, Edges.BAD,
                x -> x.startRumour(0, reach));
        }
    }

    // "it comes to a floor at once, having gone no pipe"
    private static void promise9AtOnce() {
        RumourPipes x = new RumourPipes();
        x.passHours(60);
        x.startRumour(5, 20);
        Check.same("state", 1, x.stateOf(0, 5));
        Check.same("hour", 60, x.heardAt(0, 5));
        Check.same("pipes", 0, x.pipesTo(0, 5));
        Check.same("no others", 1, x.reached(0));
    }

    // "Throws IndexOutOfBoundsException if there is no such rumour or floor"
    private static void promise10Numbers() {
        Edges.takesRumours("startDenial of", (x, rumour) -> x.startDenial(rumour, 2));
        Edges.takesFloors("startDenial on", (x, floor) -> x.startDenial(0, floor));
        Edges.refuses("startDenial, both wrong", Edges::busyTower, Edges.NO_SUCH, x -> x.startDenial(2, 3));
    }

    // "Returns how many heads believed it there."
    private static void promise10HowManyHeads() {
        RumourPipes x = new RumourPipes();
        x.setHeads(0, 99);
        x.setHeads(1, 0);
        x.startRumour(0, 20);
        x.startRumour(1, 20);
        Check.same("the most", 99, x.startDenial(0, 0));
        Check.same("nobody is there", 0, x.startDenial(1, 1));
        Check.same("nobody there has heard of it", 0, x.startDenial(0, 5));
    }

    // "Throws IllegalStateException if it was denied there already"
    private static void promise10DeniedAlready() {
        Edges.refuses("startDenial where it was started", Edges::busyTower, Edges.REFUSED, x -> x.startDenial(0, 0));
        Edges.refuses("startDenial where it came", RumourEdgeTests::deniedByStairs, Edges.REFUSED,
            x -> x.startDenial(0, 1));
        Edges.refuses("startDenial where it came in the hour of the rumour", RumourEdgeTests::deniedByStairs,
            Edges.REFUSED, x -> x.startDenial(0, 2));
        Edges.takes("startDenial where it is believed", RumourEdgeTests::deniedByStairs, x -> x.startDenial(1, 0));
        Edges.takes("startDenial where it is not reached", RumourEdgeTests::deniedByStairs, x -> x.startDenial(1, 3));
        Edges.takes("startDenial, it is under way there", RumourEdgeTests::deniedByStairs, x -> x.startDenial(0, 3));
    }

    /** Of the rumour 0 the floor 0 was denied first, 1 in the hour 4, 2 in the hour 8, as the rumour came; 3 is next. */
    private static RumourPipes deniedByStairs() {
        RumourPipes x = tower(4);
        x.setStay(3, 5);
        x.startRumour(3, 20);
        x.startDenial(0, 0);
        x.startRumour(0, 20);
        x.passHours(9);
        x.turnStairs(0);
        x.turnStairs(1);
        x.passHours(1);
        return x;
    }

    // "it comes to a floor at once"
    private static void promise10AtOnce() {
        RumourPipes x = new RumourPipes();
        x.passHours(7);
        x.startRumour(0, 20);
        x.startDenial(0, 5);
        Check.same("state", 2, x.stateOf(0, 5));
        Check.same("hour", 7, x.deniedAt(0, 5));
        Check.same("not heard", -1, x.heardAt(0, 5));
    }

    // "Throws IllegalArgumentException if hours is not 1 to 60"
    private static void promise11Hours() {
        Edges.takesNumbers("passHours", Edges::busyTower, 1, 60, Edges.BAD, RumourPipes::passHours);
        Edges.takesNumbers("passHours of all", Edges::fullTower, 1, 60, Edges.BAD, RumourPipes::passHours);
    }

    // "Returns how often a floor comes to believe a rumour in them."
    private static void promise11FirstAndLastHour() {
        for (int before = 1; before <= 6; before++) {
            RumourPipes x = tower(2);
            x.startRumour(0, 20);
            Check.same("the hours before " + before, before == 6 ? 1 : 0, x.passHours(before));
            Check.same("the hour " + before, before == 5 ? 1 : 0, x.passHours(1));
        }
    }

    // "how often"
    private static void promise11HowOften() {
        Check.same("no rumours", 0, new RumourPipes().passHours(60));
        RumourPipes x = quickTower(12);
        for (int i = 0; i < 8; i++) {
            x.startRumour(i, 20);
        }
        Check.same("each of 8 rumours on 11 more floors, but for one that comes in the hour 11", 87, x.passHours(11));
        Check.same("that one", 1, x.passHours(1));
        Check.same("no more", 0, x.passHours(60));
    }

    // "comes to believe"
    private static void promise11InVainOrDenied() {
        RumourPipes x = quickTower(3);
        x.startRumour(0, 20);
        x.startRumour(0, 20);
        x.startDenial(1, 1);
        Check.same("twice the one, the other one in vain", 2, x.passHours(60));
    }

    // "Lets hours go by."
    private static void promise11AtOnceOrOneByOne() {
        RumourPipes one = Edges.greatestTower();
        RumourPipes other = Edges.greatestTower();
        int sum = 0;
        for (int i = 0; i < 60; i++) {
            sum += one.passHours(1);
        }
        Check.same("60 hours, news", sum, other.passHours(60));
        Check.same("60 hours, digest", one.digest(), other.digest());
    }

    // "Throws IndexOutOfBoundsException if there is no such rumour"; "Returns on which floor it was started."
    private static void promise24() {
        Edges.takesRumours("originOf", RumourPipes::originOf);
        RumourPipes x = tower(12);
        x.startRumour(11, 1);
        x.startRumour(0, 1);
        Check.same("the highest", 11, x.originOf(0));
        Check.same("the lowest", 0, x.originOf(1));
    }

    // "Throws IndexOutOfBoundsException if there is no such rumour"; "Returns its reach."
    private static void promise25() {
        Edges.takesRumours("reachOf", RumourPipes::reachOf);
        RumourPipes x = new RumourPipes();
        x.startRumour(0, 1);
        x.startRumour(0, 20);
        x.passHours(60);
        Check.same("the least", 1, x.reachOf(0));
        Check.same("the greatest, whatever it went", 20, x.reachOf(1));
    }

    // "Throws IndexOutOfBoundsException if there is no such rumour or floor"
    private static void promise26() {
        Edges.takesRumours("stateOf, rumour", (x, rumour) -> x.stateOf(rumour, 0));
        Edges.takesFloors("stateOf, floor", (x, floor) -> x.stateOf(0, floor));
        Edges.refuses("stateOf, both wrong", Edges::busyTower, Edges.NO_SUCH, x -> x.stateOf(2, 3));
        RumourPipes x = Edges.busyTower();
        Check.same("believed before it was denied", 2, x.stateOf(0, 0));
        Check.same("not reached", 0, x.stateOf(0, 1));
        Check.same("believed", 1, x.stateOf(1, 2));
    }

    // "Returns the hour in which the floor came to believe it; -1 if it did not."
    private static void promise27() {
        Edges.takesRumours("heardAt, rumour", (x, rumour) -> x.heardAt(rumour, 0));
        Edges.takesFloors("heardAt, floor", (x, floor) -> x.heardAt(0, floor));
        Edges.refuses("heardAt, both wrong", Edges::busyTower, Edges.NO_SUCH, x -> x.heardAt(2, 3));
        RumourPipes x = Edges.busyTower();
        x.startDenial(0, 1);
        x.passHours(60);
        Check.same("in the hour 0, and denied later", 0, x.heardAt(0, 0));
        Check.same("denied, and did not", -1, x.heardAt(0, 1));
    }

    // "Returns the hour in which it was denied there; -1 if it was not."
    private static void promise28() {
        Edges.takesRumours("deniedAt, rumour", (x, rumour) -> x.deniedAt(rumour, 0));
        Edges.takesFloors("deniedAt, floor", (x, floor) -> x.deniedAt(0, floor));
        Edges.refuses("deniedAt, both wrong", Edges::busyTower, Edges.NO_SUCH, x -> x.deniedAt(2, 3));
        RumourPipes x = new RumourPipes();
        x.startRumour(0, 20);
        x.startDenial(0, 0);
        Check.same("in the hour 0", 0, x.deniedAt(0, 0));
        Check.same("it was not", -1, x.deniedAt(0, 1));
    }

    // "Returns how many pipes it went till there; -1 if the floor did not come to believe it."
    private static void promise29() {
        Edges.takesRumours("pipesTo, rumour", (x, rumour) -> x.pipesTo(rumour, 0));
        Edges.takesFloors("pipesTo, floor", (x, floor) -> x.pipesTo(0, floor));
        Edges.refuses("pipesTo, both wrong", Edges::busyTower, Edges.NO_SUCH, x -> x.pipesTo(2, 3));
        RumourPipes x = quickTower(12);
        x.startRumour(0, 20);
        Check.same("under way, not there yet", -1, x.pipesTo(0, 1));
        x.passHours(60);
        Check.same("none where it was started", 0, x.pipesTo(0, 0));
        Check.same("the most", 11, x.pipesTo(0, 11));
        x.startRumour(0, 20);
        x.startDenial(1, 1);
        x.startDenial(1, 0);
        Check.same("denied, and did not", -1, x.pipesTo(1, 1));
        Check.same("denied, and did before", 0, x.pipesTo(1, 0));
    }

    // "Returns how many heads there are on floors that believe it."
    private static void promise30() {
        Edges.takesRumours("believers", RumourPipes::believers);
        RumourPipes x = quickTower(12);
        for (int f = 0; f < 12; f++) {
            x.setHeads(f, 99);
        }
        x.startRumour(0, 20);
        x.passHours(60);
        Check.same("the most", 12 * 99, x.believers(0));
        for (int f = 0; f < 12; f++) {
            x.setHeads(f, 0);
        }
        Check.same("all believe it, and nobody is there", 0, x.believers(0));
        x.setHeads(11, 1);
        Check.same("one", 1, x.believers(0));
        x.startDenial(0, 11);
        Check.same("none", 0, x.believers(0));
    }

    // "Returns how many floors came to believe it, whether it was denied there later or not."
    private static void promise31() {
        Edges.takesRumours("reached", RumourPipes::reached);
        RumourPipes x = quickTower(12);
        x.startRumour(0, 20);
        Check.same("one at once", 1, x.reached(0));
        x.passHours(60);
        Check.same("all", 12, x.reached(0));
        x.startDenial(0, 5);
        x.passHours(60);
        Check.same("all, denied later", 12, x.reached(0));
        x.startRumour(0, 20);
        x.startDenial(1, 1);
        x.passHours(60);
        Check.same("where it was just denied it does not count", 1, x.reached(1));
    }

    // "Returns to how many floors the rumour, or a denial of it, or both, is under way"
    private static void promise32() {
        Edges.takesRumours("underWay", RumourPipes::underWay);
        RumourPipes x = quickTower(12);
        x.startRumour(0, 20);
        Check.same("still to be told on", 0, x.underWay(0));
        for (int f = 0; f < 12; f++) {
            x.startDenial(0, f);
        }
        Check.same("denials still to be told on", 0, x.underWay(0));
        x.passHours(1);
        Check.same("to all floors", 12, x.underWay(0));
        x.passHours(1);
        Check.same("all came", 0, x.underWay(0));
        x = tower(3);
        x.startRumour(0, 20);
        x.passHours(3);
        Check.same("a rumour", 1, x.underWay(0));
        x.startDenial(0, 2);
        x.passHours(2);
        Check.same("both to the same floor", 1, x.underWay(0));
        x.passHours(1);
        Check.same("a denial", 1, x.underWay(0));
    }

    // "to those to which it will come in vain as well"
    private static void promise32InVain() {
        RumourPipes x = tower(2);
        x.startRumour(0, 20);
        x.passHours(3);
        x.startDenial(0, 1);
        Check.same("the rumour, to a floor that was denied", 1, x.underWay(0));
        x = tower(2);
        x.startRumour(0, 1);
        x.startDenial(0, 0);
        x.startDenial(0, 1);
        x.passHours(2);
        Check.same("two denials, each to a floor that was denied", 2, x.underWay(0));
        x.passHours(3);
        Check.same("both came", 0, x.underWay(0));
    }
}
