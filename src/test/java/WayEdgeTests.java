/** Edges of promises 33 to 38; each test stands below its sentence. */
public final class WayEdgeTests {
    public static void main(String[] args) {
        promise33Floors();
        promise33Same();
        promise33NoWay();
        promise33StayOnAllButTheLast();
        promise33LeastAndGreatest();
        promise33OfNow();
        promise33Quickest();
        promise34Floors();
        promise34None();
        promise34LeastAndMost();
        promise34SuchAWay();
        promise34AtLeast();
        promise35Floors();
        promise35Greatest();
        promise35Several();
        promise35Itself();
        promise36LeastOfTheGreatest();
        promise36Several();
        promise36FromIt();
        promise36DoNotCount();
        promise37LeastAndMost();
        promise37Ways();
        promise38Numbers();
        promise38Less();
        promise38JustWithIt();
        promise38WithoutAnyWay();
        promise38RunningOrStanding();
        promise38ChangesNothing();
        Check.end();
    }

    private static RumourPipes tower(int floors) {
        RumourPipes x = new RumourPipes();
        x.build(floors);
        return x;
    }

    private static RumourPipes slowestTower() {
        RumourPipes x = tower(12);
        for (int f = 0; f < 12; f++) {
            x.setStay(f, 9);
        }
        for (int f = 0; f < 11; f++) {
            x.setStairs(f, 9);
        }
        return x;
    }

    private static RumourPipes towerOfShutStairs(int floors) {
        RumourPipes x = tower(floors);
        for (int f = 0; f < floors - 1; f++) {
            x.turnStairs(f);
        }
        return x;
    }

    // "Throws IndexOutOfBoundsException if one of them is not there"
    private static void promise33Floors() {
        Edges.takesFloors("quickest from", (x, floor) -> x.quickest(floor, 0));
        Edges.takesFloors("quickest to", (x, floor) -> x.quickest(0, floor));
        Edges.takesFloors("quickest from and to", (x, floor) -> x.quickest(floor, floor));
    }

    // "0 if they are the same"
    private static void promise33Same() {
        RumourPipes x = slowestTower();
        RumourPipes alone = towerOfShutStairs(12);
        for (int f = 0; f < 12; f++) {
            Check.same("quickest to itself", 0, x.quickest(f, f));
            Check.same("quickest to itself without a pipe", 0, alone.quickest(f, f));
        }
    }

    // "-1 if there is no way"
    private static void promise33NoWay() {
        RumourPipes x = tower(2);
        x.turnStairs(0);
        Check.same("no way up", -1, x.quickest(0, 1));
        Check.same("no way down", -1, x.quickest(1, 0));
        x = tower(12);
        x.turnStairs(5);
        for (int from = 0; from < 12; from++) {
            for (int to = 0; to < 12; to++) {
                boolean way = from < 6 == to < 6;
                int due = way ? 5 * Math.abs(from - to) : -1;
                Check.same("ways in parts " + from + " " + to, due, x.quickest(from, to));
            }
        }
    }

    // "with the stay on all floors but the last one"
    private static void promise33StayOnAllButTheLast() {
        int[] stays = {1, 2, 4};
        RumourPipes x = tower(3);
        for (int f = 0; f < 3; f++) {
            x.setStay(f, stays[f]);
        }
        Check.same("the first one counts", 1 + 3, x.quickest(0, 1));
        Check.same("those between count", 1 + 3 + 2 + 3, x.quickest(0, 2));
        Check.same("down as well", 4 + 3 + 2 + 3, x.quickest(2, 0));
        Check.same("the last one does not", 2 + 3, x.quickest(1, 2));
    }

    // "stays, 0 to 9"; "1 to 9 hours"; "2 to 12"
    private static void promise33LeastAndGreatest() {
        RumourPipes x = tower(2);
        x.setStay(0, 0);
        x.setStairs(0, 1);
        Check.same("the quickest way", 1, x.quickest(0, 1));
        Check.same("the longest way", 11 * 18, slowestTower().quickest(0, 11));
        Check.same("the longest way down", 11 * 18, slowestTower().quickest(11, 0));
    }

    // "a rumour that came to the one now"; "by the pipes and stays of now"
    private static void promise33OfNow() {
        RumourPipes x = tower(3);
        x.startRumour(0, 1);
        x.passHours(5);
        x.startDenial(0, 2);
        Check.same("no rumour and no denial is anything to it", 10, x.quickest(0, 2));
        x.setStay(0, 0);
        x.setStay(1, 9);
        x.setStairs(1, 1);
        Check.same("all is as of now", 0 + 3 + 9 + 1, x.quickest(0, 2));
        x.passHours(60);
        Check.same("and as long later", 0 + 3 + 9 + 1, x.quickest(0, 2));
    }

    // "on the quickest way"
    private static void promise33Quickest() {
        for (int waits = 7; waits <= 9; waits++) {
            RumourPipes x = tower(3);
            x.addLift(0, 2, 2, waits);
            Check.same("stairs in 10, a lift in " + (waits + 3), Math.min(10, waits + 3), x.quickest(0, 2));
        }
        RumourPipes x = tower(12);
        x.addLift(0, 11, 11, 1);
        Check.same("up, and down by the stairs", 8 + 5, x.quickest(0, 10));
        Check.same("as many hours", 8 + 4 * 5, x.quickest(0, 7));
        Check.same("up the stairs", 25, x.quickest(0, 5));
    }

    // "Throws IndexOutOfBoundsException if one of them is not there"
    private static void promise34Floors() {
        Edges.takesFloors("pipesBetween from", (x, floor) -> x.pipesBetween(floor, 0));
        Edges.takesFloors("pipesBetween to", (x, floor) -> x.pipesBetween(0, floor));
        Edges.takesFloors("pipesBetween from and to", (x, floor) -> x.pipesBetween(floor, floor));
    }

    // "-1 if there is none"
    private static void promise34None() {
        RumourPipes x = tower(2);
        x.turnStairs(0);
        Check.same("no way up", -1, x.pipesBetween(0, 1));
        Check.same("no way down", -1, x.pipesBetween(1, 0));
    }

    // "Returns how many pipes such a way has at least"
    private static void promise34LeastAndMost() {
        RumourPipes x = slowestTower();
        RumourPipes alone = towerOfShutStairs(12);
        for (int f = 0; f < 12; f++) {
            Check.same("none to itself", 0, x.pipesBetween(f, f));
            Check.same("none to itself, alone", 0, alone.pipesBetween(f, f));
        }
        Check.same("one", 1, x.pipesBetween(10, 11));
        Check.same("the most", 11, x.pipesBetween(0, 11));
        Check.same("the most, down", 11, x.pipesBetween(11, 0));
    }

    // "such a way"
    private static void promise34SuchAWay() {
        RumourPipes x = tower(3);
        x.addLift(0, 2, 2, 8);
        Check.same("one pipe would be an hour slower", 2, x.pipesBetween(0, 2));
        x.setStay(1, 3);
        Check.same("one pipe is as quick", 1, x.pipesBetween(0, 2));
        x.setStay(1, 4);
        Check.same("one pipe is quicker", 1, x.pipesBetween(0, 2));
        x = quickStairsAndLift(3);
        Check.same("over 1 and 2", 11, x.quickest(0, 3));
        Check.same("over 4 it would be fewer pipes, and an hour slower", 3, x.pipesBetween(0, 3));
    }

    /** From 0 to 3 it is 11 hours over 1 and 2, and 9 and the hours of stairs over 4. */
    private static RumourPipes quickStairsAndLift(int stairs) {
        RumourPipes x = tower(5);
        for (int f = 0; f < 5; f++) {
            x.setStay(f, f == 4 ? 6 : 0);
        }
        x.setStairs(0, 1);
        x.setStairs(1, 1);
        x.setStairs(2, 9);
        x.setStairs(3, stairs);
        x.addLift(0, 4, 4, 1);
        return x;
    }

    // "at least"
    private static void promise34AtLeast() {
        RumourPipes x = tower(4);
        for (int f = 0; f < 4; f++) {
            x.setStay(f, 0);
        }
        x.addLift(1, 3, 2, 5);
        Check.same("up in 9 hours by 3 pipes, or by 2", 2, x.pipesBetween(0, 3));
        Check.same("down as well", 2, x.pipesBetween(3, 0));
        x.addLift(0, 3, 3, 8);
        Check.same("or by 1", 1, x.pipesBetween(0, 3));
        x = quickStairsAndLift(2);
        Check.same("over 1 and 2, or over 4", 11, x.quickest(0, 3));
        Check.same("over 4 it is fewer pipes", 2, x.pipesBetween(0, 3));
    }

    // "Throws IndexOutOfBoundsException if there is no such floor"
    private static void promise35Floors() {
        Edges.takesFloors("farthestFrom", RumourPipes::farthestFrom);
    }

    // "Returns the floor to which quickest() from it is the greatest"
    private static void promise35Greatest() {
        Check.same("of two, from the lower one", 1, tower(2).farthestFrom(0));
        Check.same("of two, from the higher one", 0, tower(2).farthestFrom(1));
        Check.same("of twelve, from the lowest one", 11, tower(12).farthestFrom(0));
        Check.same("of twelve, from the highest one", 0, tower(12).farthestFrom(11));
        RumourPipes x = tower(3);
        x.setStairs(1, 4);
        Check.same("an hour farther", 2, x.farthestFrom(1));
        x.setStairs(0, 5);
        Check.same("another hour farther", 0, x.farthestFrom(1));
    }

    // "of several the smallest number"
    private static void promise35Several() {
        RumourPipes x = towerOfShutStairs(3);
        Check.same("as far up as down", 0, tower(3).farthestFrom(1));
        x.addLift(0, 2, 1, 1);
        x.addLift(0, 2, 2, 1);
        x.setStay(0, 9);
        Check.same("by lift 1 hour up and down", 0, x.farthestFrom(1));
        x = towerOfShutStairs(12);
        x.addLift(0, 11, 1, 1);
        Check.same("10 and 11 floors are as far", 10, x.farthestFrom(0));
        Check.same("as far, down", 0, x.farthestFrom(11));
    }

    // "itself, if there is no way to any other one"
    private static void promise35Itself() {
        RumourPipes x = towerOfShutStairs(12);
        for (int f = 0; f < 12; f++) {
            Check.same("itself", f, x.farthestFrom(f));
        }
        x.turnStairs(5);
        Check.same("a way to the next one", 6, x.farthestFrom(5));
        Check.same("a way to the one below", 5, x.farthestFrom(6));
        Check.same("still itself", 7, x.farthestFrom(7));
    }

    // "Returns the floor from which the greatest quickest() to any floor is the least"
    private static void promise36LeastOfTheGreatest() {
        for (int floors = 2; floors <= 12; floors++) {
            Check.same("centre of " + floors, (floors - 1) / 2, tower(floors).centre());
        }
        RumourPipes x = tower(4);
        x.setStairs(2, 4);
        Check.same("nearer by an hour", 2, x.centre());
    }

    // "of several the smallest number"
    private static void promise36Several() {
        RumourPipes x = towerOfShutStairs(12);
        for (int f = 0; f < 12; f++) {
            x.setStay(f, 9);
        }
        x.addLift(0, 11, 1, 9);
        Check.same("from 4 to 7 it is 9 + 9 + 3 at most", 4, x.centre());
        Check.same("of two", 0, tower(2).centre());
    }

    // "from which .. to any floor"
    private static void promise36FromIt() {
        RumourPipes x = towerOfShutStairs(12);
        for (int f = 0; f < 11; f++) {
            x.setStay(f, 9);
        }
        x.addLift(0, 11, 1, 9);
        Check.same("the highest one, where the stay is short", 11, x.centre());
        x.setStay(0, 2);
        Check.same("the lowest one is as good", 0, x.centre());
        x.setStay(11, 1);
        Check.same("the highest one is an hour better", 11, x.centre());
    }

    // "floors from which there is not a way to each other one do not count; 0 if none counts"
    private static void promise36DoNotCount() {
        RumourPipes x = tower(6);
        x.setStay(0, 9);
        x.turnStairs(0);
        Check.same("without the lowest one 3 would be the centre", 0, x.centre());
        x.turnStairs(0);
        x.turnStairs(4);
        Check.same("without the highest one 2 would be the centre", 0, x.centre());
        x.addLift(4, 5, 1, 9);
        Check.same("a way again", 3, x.centre());
        Check.same("all alone", 0, towerOfShutStairs(12).centre());
    }

    // "Returns in how many parts the tower is"
    private static void promise37LeastAndMost() {
        RumourPipes x = tower(12);
        Check.same("one part", 1, x.parts());
        for (int f = 10; f >= 0; f--) {
            x.turnStairs(f);
            Check.same("parts", 12 - f, x.parts());
        }
        Check.same("two floors, one part", 1, tower(2).parts());
        Check.same("two floors, two parts", 2, towerOfShutStairs(2).parts());
    }

    // "between which there are no ways"
    private static void promise37Ways() {
        RumourPipes x = towerOfShutStairs(12);
        x.addLift(0, 11, 3, 1);
        Check.same("0, 3, 6 and 9 are one", 9, x.parts());
        x.addLift(1, 11, 5, 1);
        Check.same("1, 6 and 11 join them", 7, x.parts());
        x.addLift(2, 10, 8, 1);
        Check.same("2 and 10 are one besides", 6, x.parts());
        x.turnLift(1);
        Check.same("a lift stands", 8, x.parts());
    }

    // "Throws IndexOutOfBoundsException if there is no such lift, or no such floor"
    private static void promise38Numbers() {
        Edges.takesLifts("gainBy, lift", (x, lift) -> x.gainBy(lift, 0, 2));
        Edges.takesFloors("gainBy, from", (x, floor) -> x.gainBy(0, floor, 1));
        Edges.takesFloors("gainBy, to", (x, floor) -> x.gainBy(0, 1, floor));
        Edges.refuses("gainBy, all wrong", Edges::busyTower, Edges.NO_SUCH, x -> x.gainBy(2, 3, -1));
        for (int lift = 0; lift < 2; lift++) {
            int asked = lift;
            Edges.refuses("gainBy, from 3, one runs, one stands", Edges::busyTower, Edges.NO_SUCH,
                x -> x.gainBy(asked, 3, 0));
            Edges.refuses("gainBy, to -1, one runs, one stands", Edges::busyTower, Edges.NO_SUCH,
                x -> x.gainBy(asked, 0, -1));
        }
    }

    // "Returns how many hours quickest() would be less with the lift running than with it standing"
    private static void promise38Less() {
        for (int waits = 6; waits <= 9; waits++) {
            RumourPipes x = tower(3);
            x.addLift(0, 2, 2, waits);
            Check.same("gainBy, waits " + waits, waits == 6 ? 1 : 0, x.gainBy(0, 0, 2));
        }
        RumourPipes x = slowestTower();
        x.addLift(0, 11, 11, 1);
        Check.same("the most", 11 * 18 - (9 + 6), x.gainBy(0, 0, 11));
        Check.same("none to itself", 0, x.gainBy(0, 0, 0));
        x.addLift(0, 11, 11, 2);
        Check.same("an hour less than by the other lift", 1, x.gainBy(0, 0, 11));
        Check.same("an hour more than by the other lift", 0, x.gainBy(1, 0, 11));
    }

    // "-1 if there is a way just with it"
    private static void promise38JustWithIt() {
        RumourPipes x = towerOfShutStairs(2);
        x.addLift(0, 1, 1, 9);
        Check.same("just with it", -1, x.gainBy(0, 0, 1));
        Check.same("to itself there is one without it", 0, x.gainBy(0, 1, 1));
        x.turnLift(0);
        Check.same("just with it, though it stands", -1, x.gainBy(0, 1, 0));
    }

    // "0 without any way"
    private static void promise38WithoutAnyWay() {
        RumourPipes x = towerOfShutStairs(3);
        x.addLift(0, 1, 1, 9);
        Check.same("not even with it", 0, x.gainBy(0, 0, 2));
        Check.same("not even with it, down", 0, x.gainBy(0, 2, 1));
    }

    // "with the lift running than with it standing"
    private static void promise38RunningOrStanding() {
        RumourPipes x = tower(6);
        x.addLift(0, 5, 5, 4);
        x.addLift(0, 5, 5, 6);
        x.turnLift(1);
        for (int round = 0; round < 2; round++) {
            Check.same("without the other lift, which stands", 25 - 8, x.gainBy(0, 0, 5));
            x.turnLift(0);
        }
        x.turnLift(1);
        for (int round = 0; round < 2; round++) {
            Check.same("with the other lift, which runs", 10 - 8, x.gainBy(0, 0, 5));
            x.turnLift(0);
        }
    }

    // "Nothing is promised beyond the answers and state changes described": a question changes nothing
    private static void promise38ChangesNothing() {
        for (int lift = 0; lift < 2; lift++) {
            int asked = lift;
            Edges.changesNothing("gainBy of " + lift, Edges::busyTower, x -> x.gainBy(asked, 0, 2));
            Edges.changesNothing("gainBy of " + lift + " without any", Edges::busyTower, x -> x.gainBy(asked, 1, 1));
        }
    }
}
