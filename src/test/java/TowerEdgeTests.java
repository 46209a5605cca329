/** Edges of the terms of a tower and of promises 1 to 8 and 12 to 23; each test stands below its sentence. */
public final class TowerEdgeTests {
    public static void main(String[] args) {
        promise1();
        promise2LeastAndMost();
        promise2AsAtFirst();
        promise2Gone();
        promise2HoursStay();
        promise3Floors();
        promise3Hours();
        promise3FromNowOn();
        promise3Order();
        promise4Floors();
        promise4Heads();
        promise4Order();
        promise5Stairs();
        promise5Hours();
        promise5UpAndDown();
        promise5Order();
        promise6Stairs();
        promise6Turns();
        promise7Floors();
        promise7LowestAndHighest();
        promise7Every();
        promise7Waits();
        promise7Four();
        promise7Order();
        promise7Serves();
        promise7RunsAtFirst();
        promise8Lifts();
        promise8Turns();
        promise12();
        promise13();
        promise14();
        promise15();
        promise16();
        promise17();
        promise18();
        promise19();
        promise20();
        promise21Numbers();
        promise21RunningOrNot();
        promise22Floors();
        promise22None();
        promise22Same();
        promise22CutHalf();
        promise22LeastAndGreatest();
        promise22Fewest();
        promise22OpenOrRunning();
        promise23Floors();
        promise23LeastAndMost();
        Check.end();
    }

    private static RumourPipes tower(int floors) {
        RumourPipes x = new RumourPipes();
        x.build(floors);
        return x;
    }

    private static void floorAsAtFirst(String when, RumourPipes x, int floor) {
        Check.same(when + "heads of " + floor, 10, x.headsOf(floor));
        Check.same(when + "stay of " + floor, 2, x.stayOf(floor));
        if (floor < x.floors() - 1) {
            Check.same(when + "stairs of " + floor, 3, x.stairsOf(floor));
            Check.is(when + "stairs of " + floor + " are open", x.isOpen(floor));
            Check.same(when + "pipe up from " + floor, 3, x.pipe(floor, floor + 1));
        }
    }

    // "Creates a tower of 6 floors with stairs, without lifts and rumours, at the hour 0."
    private static void promise1() {
        RumourPipes x = new RumourPipes();
        Check.same("new: floors", 6, x.floors());
        Check.same("new: lifts", 0, x.lifts());
        Check.same("new: rumours", 0, x.rumours());
        Check.same("new: hours", 0, x.hours());
        Check.same("new: one part", 1, x.parts());
        for (int f = 0; f < 6; f++) {
            floorAsAtFirst("new: ", x, f);
        }
        Edges.refuses("new: stairs of the highest floor", RumourPipes::new, Edges.NO_SUCH, y -> y.stairsOf(5));
        Edges.refuses("new: a seventh floor", RumourPipes::new, Edges.NO_SUCH, y -> y.headsOf(6));
    }

    // "Throws IllegalArgumentException if floors is not 2 to 12"; "Returns how many stairs it has."
    private static void promise2LeastAndMost() {
        Edges.takesNumbers("build", Edges::fullTower, 2, 12, Edges.BAD, (x, number) -> x.build(number));
        Check.same("build the smallest", 1, new RumourPipes().build(2));
        Check.same("build the greatest", 11, new RumourPipes().build(12));
    }

    // "floors and stairs are as at first"
    private static void promise2AsAtFirst() {
        RumourPipes x = tower(12);
        for (int round = 0; round < 2; round++) {
            for (int f = 0; f < x.floors(); f++) {
                x.setHeads(f, 99);
                x.setStay(f, 9);
            }
            for (int f = 0; f < x.floors() - 1; f++) {
                x.setStairs(f, 9);
                x.turnStairs(f);
            }
            x.build(round == 0 ? 2 : 12);
        }
        for (int f = 0; f < 12; f++) {
            floorAsAtFirst("built smaller and greater again: ", x, f);
        }
        x.setHeads(11, 0);
        x.turnStairs(10);
        x.build(12);
        floorAsAtFirst("built as great again: ", x, 10);
        floorAsAtFirst("built as great again: ", x, 11);
    }

    // "lifts and rumours are gone"
    private static void promise2Gone() {
        RumourPipes x = Edges.fullTower();
        x.build(3);
        Check.same("build: lifts", 0, x.lifts());
        Check.same("build: rumours", 0, x.rumours());
        Check.same("build: no pipe by a lift", -1, x.pipe(0, 2));
        for (int i = 0; i < 8; i++) {
            Check.same("build: rumours from 0 again", i, x.startRumour(0, 1));
            Check.same("build: not reached any more", 0, x.stateOf(i, 2));
            Check.same("build: not denied any more", -1, x.deniedAt(i, 0));
        }
        for (int i = 0; i < 4; i++) {
            Check.same("build: lifts from 0 again", i, x.addLift(0, 2, 2, 9));
            Check.is("build: it stops where it is told to", x.serves(i, 2) && !x.serves(i, 1));
        }
        Edges.refuses("build: the lift 0", TowerEdgeTests::builtAgain, Edges.NO_SUCH, y -> y.runs(0));
        Edges.refuses("build: the rumour 0", TowerEdgeTests::builtAgain, Edges.NO_SUCH, y -> y.believers(0));
        Check.same("build: what was under way comes nowhere", 0, builtAgain().passHours(60));
    }

    private static RumourPipes builtAgain() {
        RumourPipes x = Edges.fullTower();
        x.build(3);
        return x;
    }

    // "hours stay"
    private static void promise2HoursStay() {
        RumourPipes x = new RumourPipes();
        x.passHours(60);
        x.passHours(1);
        x.build(2);
        Check.same("build: hours", 61, x.hours());
        x.startRumour(1, 1);
        Check.same("build: a rumour of the hour 61", 61, x.heardAt(0, 1));
    }

    // "Throws IndexOutOfBoundsException if there is no such floor"
    private static void promise3Floors() {
        Edges.takesFloors("setStay on", (x, floor) -> x.setStay(floor, 4));
    }

    // "Throws IllegalArgumentException if hours is not 0 to 9"; "Returns how many before."
    private static void promise3Hours() {
        Edges.takesNumbers("setStay of", Edges::busyTower, 0, 9, Edges.BAD, (x, hours) -> x.setStay(2, hours));
        RumourPipes x = new RumourPipes();
        Check.same("setStay, as at first", 2, x.setStay(5, 0));
        Check.same("setStay, the least before", 0, x.setStay(5, 9));
        Check.same("setStay, the greatest before", 9, x.setStay(5, 9));
    }

    // "how many hours a rumour that comes to it stays there from now on"
    private static void promise3FromNowOn() {
        RumourPipes x = new RumourPipes();
        x.setStay(0, 9);
        x.startRumour(0, 1);
        x.setStay(0, 0);
        x.startRumour(0, 1);
        Check.same("it came before, and stays as long as then", 12, x.wouldHear(0, 1));
        Check.same("it came after", 3, x.wouldHear(1, 1));
        x.setStay(1, 9);
        Check.same("the stay where it comes is nothing to when it comes", 3, x.wouldHear(1, 1));
    }

    // "If several exceptions apply, the one that is named first is thrown."
    private static void promise3Order() {
        for (int floor : new int[] {-1, 3}) {
            for (int hours : new int[] {-1, 10}) {
                Edges.refuses("setStay, both wrong", Edges::busyTower, Edges.NO_SUCH, x -> x.setStay(floor, hours));
            }
        }
    }

    // "Throws IndexOutOfBoundsException if there is no such floor"
    private static void promise4Floors() {
        Edges.takesFloors("setHeads on", (x, floor) -> x.setHeads(floor, 4));
    }

    // "Throws IllegalArgumentException if heads is not 0 to 99"; "Returns how many before."
    private static void promise4Heads() {
        Edges.takesNumbers("setHeads of", Edges::busyTower, 0, 99, Edges.BAD, (x, heads) -> x.setHeads(2, heads));
        RumourPipes x = new RumourPipes();
        Check.same("setHeads, as at first", 10, x.setHeads(5, 0));
        Check.same("setHeads, the least before", 0, x.setHeads(5, 99));
        Check.same("setHeads, the greatest before", 99, x.setHeads(5, 99));
    }

    // "If several exceptions apply, the one that is named first is thrown."
    private static void promise4Order() {
        for (int floor : new int[] {-1, 3}) {
            for (int heads : new int[] {-1, 100}) {
                Edges.refuses("setHeads, both wrong", Edges::busyTower, Edges.NO_SUCH, x -> x.setHeads(floor, heads));
            }
        }
    }

    // "Throws IndexOutOfBoundsException if there is no such floor, or it is the highest one"
    private static void promise5Stairs() {
        Edges.takesStairs("setStairs on", (x, floor) -> x.setStairs(floor, 4));
    }

    // "Throws IllegalArgumentException if hours is not 1 to 9"; "Returns in how many before."
    private static void promise5Hours() {
        Edges.takesNumbers("setStairs of", Edges::busyTower, 1, 9, Edges.BAD, (x, hours) -> x.setStairs(0, hours));
        RumourPipes x = new RumourPipes();
        Check.same("setStairs, as at first", 3, x.setStairs(4, 1));
        Check.same("setStairs, the least before", 1, x.setStairs(4, 9));
        Check.same("setStairs, the greatest before", 9, x.setStairs(4, 9));
    }

    // "in how many hours these stairs lead up and down from now on"
    private static void promise5UpAndDown() {
        RumourPipes x = new RumourPipes();
        x.setStairs(4, 9);
        Check.same("setStairs, up", 9, x.pipe(4, 5));
        Check.same("setStairs, down", 9, x.pipe(5, 4));
        Check.same("setStairs, those below", 3, x.pipe(3, 4));
        x.setStay(5, 0);
        x.startRumour(5, 20);
        x.passHours(1);
        x.setStairs(4, 1);
        Check.same("setStairs, what is under way comes as before", 9, x.wouldHear(0, 4));
    }

    // "If several exceptions apply, the one that is named first is thrown."
    private static void promise5Order() {
        for (int floor : new int[] {-1, 2, 3}) {
            for (int hours : new int[] {0, 10}) {
                Edges.refuses("setStairs, both wrong", Edges::busyTower, Edges.NO_SUCH, x -> x.setStairs(floor, hours));
            }
        }
    }

    // "Throws IndexOutOfBoundsException if there is no such floor, or it is the highest one"
    private static void promise6Stairs() {
        Edges.takesStairs("turnStairs", RumourPipes::turnStairs);
    }

    // "Shuts stairs that are open, and opens those that are shut."; "Returns whether they are open then."
    private static void promise6Turns() {
        RumourPipes x = tower(2);
        for (int round = 0; round < 2; round++) {
            Check.is("turnStairs shuts", !x.turnStairs(0));
            Check.same("turnStairs, no pipe", -1, x.pipe(1, 0));
            Check.is("turnStairs opens", x.turnStairs(0));
            Check.same("turnStairs, a pipe", 3, x.pipe(1, 0));
        }
    }

    // "Throws IndexOutOfBoundsException if there is no such floor"
    private static void promise7Floors() {
        for (int floors : new int[] {2, 6, 12}) {
            int top = floors - 1;
            Edges.takes("addLift from 0 to " + top, () -> tower(floors), x -> x.addLift(0, top, top, 1));
            for (int wrong : new int[] {-1, floors, Integer.MIN_VALUE, Integer.MAX_VALUE}) {
                Edges.refuses("addLift from " + wrong, () -> tower(floors), Edges.NO_SUCH,
                    x -> x.addLift(wrong, top, 1, 1));
                Edges.refuses("addLift to " + wrong, () -> tower(floors), Edges.NO_SUCH,
                    x -> x.addLift(0, wrong, 1, 1));
            }
        }
    }

    // "Throws IllegalArgumentException if lowest is not less than highest"
    private static void promise7LowestAndHighest() {
        for (int lowest = 0; lowest < 3; lowest++) {
            int low = lowest;
            for (int every : new int[] {-1, 0, 1, 2}) {
                Edges.refuses("addLift from " + low + " to itself, every " + every, Edges::busyTower, Edges.BAD,
                    x -> x.addLift(low, low, every, 1));
                Edges.refuses("addLift from 2 down to 1, every " + every, Edges::busyTower, Edges.BAD,
                    x -> x.addLift(2, 1, every, 1));
                Edges.refuses("addLift from 2 down to 0, every " + every, Edges::busyTower, Edges.BAD,
                    x -> x.addLift(2, 0, every, 1));
            }
        }
        Edges.takes("addLift between the lowest floors", Edges::busyTower, x -> x.addLift(0, 1, 1, 1));
        Edges.takes("addLift between the highest floors", Edges::busyTower, x -> x.addLift(1, 2, 1, 1));
    }

    // "every is not 1 to how many floors they are apart"
    private static void promise7Every() {
        Edges.takesNumbers("addLift from 0 to 1, every", Edges::busyTower, 1, 1, Edges.BAD,
            (x, every) -> x.addLift(0, 1, every, 1));
        Edges.takesNumbers("addLift from 1 to 4, every", RumourPipes::new, 1, 3, Edges.BAD,
            (x, every) -> x.addLift(1, 4, every, 1));
        Edges.takesNumbers("addLift from 0 to 11, every", () -> tower(12), 1, 11, Edges.BAD,
            (x, every) -> x.addLift(0, 11, every, 1));
    }

    // "or waits is not 1 to 9"
    private static void promise7Waits() {
        Edges.takesNumbers("addLift, waits", Edges::busyTower, 1, 9, Edges.BAD,
            (x, waits) -> x.addLift(0, 2, 1, waits));
    }

    // "Throws IllegalStateException if there are 4"; "Lifts: at most 4, numbered from 0"; "Returns its number."
    private static void promise7Four() {
        RumourPipes x = new RumourPipes();
        for (int i = 0; i < 4; i++) {
            Check.same("addLift returns its number", i, x.addLift(0, 5, 5, 1));
        }
        Edges.refuses("addLift, a fifth", Edges::fullTower, Edges.REFUSED, y -> y.addLift(0, 2, 1, 1));
        Edges.refuses("addLift, a fifth, when all stand", TowerEdgeTests::fullOfStandingLifts, Edges.REFUSED,
            y -> y.addLift(0, 2, 1, 1));
    }

    private static RumourPipes fullOfStandingLifts() {
        RumourPipes x = Edges.fullTower();
        for (int i = 0; i < 4; i++) {
            if (x.runs(i)) {
                x.turnLift(i);
            }
        }
        return x;
    }

    // "If several exceptions apply, the one that is named first is thrown."
    private static void promise7Order() {
        int[][] noSuch = {{-1, 2}, {3, 2}, {0, 3}, {2, -1}, {-1, -1}, {3, 3}};
        int[][] numbers = {{1, 1}, {0, 1}, {4, 1}, {1, 0}, {1, 10}, {0, 0}};
        for (int[] f : noSuch) {
            for (int[] n : numbers) {
                Edges.refuses("addLift, floor and more wrong", Edges::busyTower, Edges.NO_SUCH,
                    x -> x.addLift(f[0], f[1], n[0], n[1]));
                Edges.refuses("addLift, floor and more wrong, and there are 4", Edges::fullTower, Edges.NO_SUCH,
                    x -> x.addLift(f[0], f[1], n[0], n[1]));
            }
        }
        int[][] bad = {{2, 2, 1, 1}, {2, 1, 1, 1}, {0, 2, 0, 1}, {0, 2, 3, 1}, {0, 2, 1, 0}, {0, 2, 1, 10}};
        for (int[] a : bad) {
            Edges.refuses("addLift, a number wrong, and there are 4", Edges::fullTower, Edges.BAD,
                x -> x.addLift(a[0], a[1], a[2], a[3]));
        }
    }

    // "each serves its lowest floor, and each one that is some floors farther, once or several times, up to its
    // highest one"
    private static void promise7Serves() {
        String[] due = {"111111", "101010", "100100", "100010", "100001"};
        for (int every = 1; every <= 5; every++) {
            RumourPipes x = new RumourPipes();
            x.addLift(0, 5, every, 1);
            Check.is("every " + every + " stops " + stops(x, 0), stops(x, 0).equals(due[every - 1]));
        }
        RumourPipes x = new RumourPipes();
        x.addLift(1, 4, 2, 1);
        x.addLift(1, 4, 3, 1);
        x.addLift(4, 5, 1, 1);
        x.addLift(0, 1, 1, 1);
        Check.is("1 and 3 of 1 to 4: " + stops(x, 0), stops(x, 0).equals("010100"));
        Check.is("1 and 4: " + stops(x, 1), stops(x, 1).equals("010010"));
        Check.is("the highest two: " + stops(x, 2), stops(x, 2).equals("000011"));
        Check.is("the lowest two: " + stops(x, 3), stops(x, 3).equals("110000"));
    }

    private static String stops(RumourPipes x, int lift) {
        StringBuilder text = new StringBuilder();
        for (int f = 0; f < x.floors(); f++) {
            text.append(x.serves(lift, f) ? '1' : '0');
        }
        return text.toString();
    }

    // "it runs (at first) or stands"
    private static void promise7RunsAtFirst() {
        RumourPipes x = new RumourPipes();
        for (int i = 0; i < 4; i++) {
            x.addLift(0, 5, 5, 9 - i);
            Check.is("a new lift runs", x.runs(i));
            Check.same("and leads", 9 - i + 2, x.pipe(0, 5));
            if (i == 1) {
                x.turnLift(0);
            }
        }
        Check.is("a new lift lets none run that stands", !x.runs(0));
    }

    // "Throws IndexOutOfBoundsException if there is no such lift"
    private static void promise8Lifts() {
        Edges.takesLifts("turnLift", RumourPipes::turnLift);
    }

    // "Stops a lift that runs, and lets one run that stands."; "Returns whether it runs then."
    private static void promise8Turns() {
        RumourPipes x = tower(2);
        x.turnStairs(0);
        x.addLift(0, 1, 1, 9);
        for (int round = 0; round < 2; round++) {
            Check.is("turnLift stops", !x.turnLift(0));
            Check.same("turnLift, no pipe", -1, x.pipe(1, 0));
            Check.is("turnLift lets run", x.turnLift(0));
            Check.same("turnLift, a pipe", 9, x.pipe(1, 0));
        }
    }

    // "There are 2 to 12 (6, at first)"
    private static void promise12() {
        Check.same("floors at first", 6, new RumourPipes().floors());
        Check.same("floors at least", 2, tower(2).floors());
        Check.same("floors at most", 12, tower(12).floors());
    }

    // "Time is told in hours, from 0."
    private static void promise13() {
        RumourPipes x = new RumourPipes();
        Check.same("hours at first", 0, x.hours());
        x.passHours(1);
        Check.same("hours", 1, x.hours());
        x.passHours(60);
        Check.same("hours, the most at once", 61, x.hours());
    }

    // "Lifts: at most 4"
    private static void promise14() {
        RumourPipes x = new RumourPipes();
        Check.same("lifts, none", 0, x.lifts());
        for (int i = 1; i <= 4; i++) {
            x.addLift(0, 1, 1, 1);
            Check.same("lifts", i, x.lifts());
        }
        x.turnLift(3);
        Check.same("lifts, one stands", 4, x.lifts());
    }

    // "At most 8"
    private static void promise15() {
        RumourPipes x = new RumourPipes();
        Check.same("rumours, none", 0, x.rumours());
        for (int i = 1; i <= 8; i++) {
            x.startRumour(0, 1);
            Check.same("rumours", i, x.rumours());
        }
        x.passHours(60);
        Check.same("rumours, all quiet", 8, x.rumours());
    }

    // "Throws IndexOutOfBoundsException if there is no such floor"
    private static void promise16() {
        Edges.takesFloors("headsOf", RumourPipes::headsOf);
    }

    // "Throws IndexOutOfBoundsException if there is no such floor"
    private static void promise17() {
        Edges.takesFloors("stayOf", RumourPipes::stayOf);
    }

    // "Throws IndexOutOfBoundsException if there is no such floor, or it is the highest one"
    private static void promise18() {
        Edges.takesStairs("stairsOf", RumourPipes::stairsOf);
    }

    // "Throws IndexOutOfBoundsException if there is no such floor, or it is the highest one"
    private static void promise19() {
        Edges.takesStairs("isOpen", RumourPipes::isOpen);
    }

    // "Throws IndexOutOfBoundsException if there is no such lift"
    private static void promise20() {
        Edges.takesLifts("runs", RumourPipes::runs);
    }

    // "Throws IndexOutOfBoundsException if there is no such lift or floor"
    private static void promise21Numbers() {
        Edges.takesLifts("serves, lift", (x, lift) -> x.serves(lift, 0));
        Edges.takesFloors("serves, floor", (x, floor) -> x.serves(0, floor));
        Edges.refuses("serves, both wrong", Edges::busyTower, Edges.NO_SUCH, x -> x.serves(2, 3));
    }

    // "Returns whether the lift serves the floor, running or not."
    private static void promise21RunningOrNot() {
        RumourPipes x = new RumourPipes();
        x.addLift(1, 4, 3, 1);
        for (int round = 0; round < 3; round++) {
            Check.is("serves its two floors", stops(x, 0).equals("010010"));
            x.turnLift(0);
        }
    }

    // "Throws IndexOutOfBoundsException if one of them is not there"
    private static void promise22Floors() {
        Edges.takesFloors("pipe, one", (x, floor) -> x.pipe(floor, 0));
        Edges.takesFloors("pipe, other", (x, floor) -> x.pipe(0, floor));
        Edges.takesFloors("pipe, both", (x, floor) -> x.pipe(floor, floor));
    }

    // "-1 if there is none"
    private static void promise22None() {
        RumourPipes x = new RumourPipes();
        Check.same("pipe, two floors apart", -1, x.pipe(0, 2));
        Check.same("pipe, from the lowest to the highest", -1, x.pipe(5, 0));
        x.turnStairs(0);
        Check.same("pipe, shut", -1, x.pipe(0, 1));
        Check.same("pipe, shut, down", -1, x.pipe(1, 0));
        x.addLift(1, 5, 4, 1);
        Check.same("pipe, a lift that does not stop there", -1, x.pipe(0, 1));
        Check.same("pipe, nor between its stops", -1, x.pipe(1, 3));
    }

    // "or they are the same"
    private static void promise22Same() {
        RumourPipes x = new RumourPipes();
        x.addLift(0, 5, 1, 1);
        for (int f = 0; f < 6; f++) {
            Check.same("pipe to itself", -1, x.pipe(f, f));
        }
    }

    // "half of the floors between both (how many floors farther the other one is, / 2), added"; "/ is cut towards 0"
    private static void promise22CutHalf() {
        RumourPipes x = tower(12);
        for (int f = 0; f < 11; f++) {
            x.turnStairs(f);
        }
        x.addLift(0, 11, 1, 4);
        int[] due = {4, 5, 5, 6, 6, 7, 7, 8, 8, 9, 9};
        for (int apart = 1; apart <= 11; apart++) {
            Check.same("up by lift, apart " + apart, due[apart - 1], x.pipe(0, apart));
            Check.same("down by lift, apart " + apart, due[apart - 1], x.pipe(apart, 0));
        }
    }

    // "in 1 to 9 hours"; "waits for 1 to 9 hours"
    private static void promise22LeastAndGreatest() {
        RumourPipes x = tower(12);
        x.setStairs(0, 1);
        x.setStairs(10, 9);
        Check.same("the shortest stairs", 1, x.pipe(0, 1));
        Check.same("the longest stairs", 9, x.pipe(11, 10));
        x.addLift(0, 11, 11, 9);
        Check.same("the slowest lift", 14, x.pipe(11, 0));
        x.addLift(5, 6, 1, 1);
        Check.same("the quickest lift", 1, x.pipe(6, 5));
    }

    // "of all that lead from the one to the other, open or running now, that with the fewest hours"
    private static void promise22Fewest() {
        RumourPipes x = new RumourPipes();
        x.addLift(0, 5, 1, 4);
        Check.same("the stairs are an hour quicker", 3, x.pipe(0, 1));
        x.setStairs(0, 4);
        Check.same("both are as quick", 4, x.pipe(0, 1));
        x.setStairs(0, 5);
        Check.same("the lift is an hour quicker", 4, x.pipe(0, 1));
        x.addLift(0, 5, 1, 5);
        Check.same("a later lift that is slower", 4, x.pipe(0, 1));
        x.addLift(0, 5, 1, 3);
        Check.same("a later lift that is quicker", 3, x.pipe(0, 1));
    }

    // "open or running now"
    private static void promise22OpenOrRunning() {
        RumourPipes x = new RumourPipes();
        x.addLift(0, 1, 1, 1);
        x.addLift(0, 1, 1, 2);
        x.turnLift(0);
        Check.same("the quickest one stands", 2, x.pipe(0, 1));
        x.turnLift(1);
        Check.same("both stand", 3, x.pipe(0, 1));
        x.turnStairs(0);
        Check.same("none is left", -1, x.pipe(0, 1));
        x.turnLift(1);
        Check.same("one runs again", 2, x.pipe(0, 1));
        x.turnLift(0);
        Check.same("both run again", 1, x.pipe(0, 1));
    }

    // "Throws IndexOutOfBoundsException if there is no such floor"
    private static void promise23Floors() {
        Edges.takesFloors("neighbours", RumourPipes::neighbours);
    }

    // "Returns to how many floors there is a pipe from it."
    private static void promise23LeastAndMost() {
        RumourPipes x = tower(12);
        for (int f = 0; f < 12; f++) {
            Check.same("neighbours by stairs", f == 0 || f == 11 ? 1 : 2, x.neighbours(f));
        }
        x.addLift(0, 11, 1, 9);
        x.addLift(0, 11, 1, 9);
        for (int f = 0; f < 12; f++) {
            Check.same("neighbours, all", 11, x.neighbours(f));
        }
        x.turnLift(0);
        x.turnLift(1);
        for (int f = 0; f < 11; f++) {
            x.turnStairs(f);
        }
        for (int f = 0; f < 12; f++) {
            Check.same("neighbours, none", 0, x.neighbours(f));
        }
    }
}
