/** Promises 1 to 8 and 12 to 23: the tower, and what there is. */
public final class TowerTests {
    private static final Class<IndexOutOfBoundsException> NO_SUCH = IndexOutOfBoundsException.class;
    private static final Class<IllegalArgumentException> BAD = IllegalArgumentException.class;
    private static final Class<IllegalStateException> FULL = IllegalStateException.class;

    public static void main(String[] args) {
        promise1NewObject();
        promise2Build();
        promise2BuildRefuses();
        promise3And17SetStay();
        promise4And16SetHeads();
        promise5And18SetStairs();
        promise6And19TurnStairs();
        promise7AddLift();
        promise7AddLiftRefuses();
        promise8And20TurnLift();
        promises12To15Counts();
        promise21Serves();
        promise22Pipe();
        promise23Neighbours();
        Check.end();
    }

    private static void asAtFirst(String when, RumourPipes x, int floors) {
        Check.same(when + "floors", floors, x.floors());
        Check.same(when + "lifts", 0, x.lifts());
        Check.same(when + "rumours", 0, x.rumours());
        for (int f = 0; f < floors; f++) {
            Check.same(when + "headsOf " + f, 10, x.headsOf(f));
            Check.same(when + "stayOf " + f, 2, x.stayOf(f));
        }
        for (int f = 0; f < floors - 1; f++) {
            Check.same(when + "stairsOf " + f, 3, x.stairsOf(f));
            Check.is(when + "isOpen " + f, x.isOpen(f));
            Check.same(when + "pipe up " + f, 3, x.pipe(f, f + 1));
            Check.same(when + "pipe down " + f, 3, x.pipe(f + 1, f));
        }
    }

    private static void promise1NewObject() {
        RumourPipes x = new RumourPipes();
        asAtFirst("new: ", x, 6);
        Check.same("new: hours", 0, x.hours());
    }

    private static void promise2Build() {
        for (int floors = 2; floors <= 12; floors++) {
            RumourPipes x = new RumourPipes();
            x.build(12);
            for (int f = 0; f < 11; f++) {
                x.setStay(f, 7);
                x.setHeads(f, 77);
                x.setStairs(f, 8);
                x.turnStairs(f);
            }
            x.addLift(0, 11, 1, 1);
            x.startRumour(3, 20);
            x.startDenial(0, 4);
            x.passHours(7);
            Check.same("build " + floors, floors - 1, x.build(floors));
            asAtFirst("build " + floors + ": ", x, floors);
            Check.same("build keeps hours", 7, x.hours());
            Check.refuses("build: the lift is gone", x, NO_SUCH, () -> x.runs(0));
            Check.refuses("build: the rumour is gone", x, NO_SUCH, () -> x.originOf(0));
            Check.same("build: lifts from 0 again", 0, x.addLift(0, 1, 1, 9));
            Check.same("build: rumours from 0 again", 0, x.startRumour(1, 1));
            Check.same("build: nothing of the old rumour is known", -1, x.heardAt(0, 0));
            Check.same("build: nothing of the old rumour is under way", 0, x.underWay(0));
            Check.same("build: nothing of the old denial is known", 0, x.stateOf(0, 0));
        }
    }

    private static void promise2BuildRefuses() {
        RumourPipes x = new RumourPipes();
        x.startRumour(0, 1);
        for (int floors : new int[] {1, 13, 0, -1, Integer.MIN_VALUE, Integer.MAX_VALUE}) {
            Check.refuses("build " + floors, x, BAD, () -> x.build(floors));
        }
    }

    private static void promise3And17SetStay() {
        RumourPipes x = new RumourPipes();
        Check.same("setStay before", 2, x.setStay(5, 9));
        Check.same("setStay before", 9, x.setStay(5, 0));
        Check.same("setStay before", 0, x.setStay(5, 4));
        Check.same("stayOf", 4, x.stayOf(5));
        Check.same("stayOf another", 2, x.stayOf(4));
        for (int floor : new int[] {-1, 6, Integer.MIN_VALUE, Integer.MAX_VALUE}) {
            Check.refuses("setStay on " + floor, x, NO_SUCH, () -> x.setStay(floor, 3));
            Check.refuses("setStay on " + floor + ", both wrong", x, NO_SUCH, () -> x.setStay(floor, 10));
            Check.refuses("stayOf " + floor, x, NO_SUCH, () -> x.stayOf(floor));
        }
        Check.refuses("setStay -1", x, BAD, () -> x.setStay(0, -1));
        Check.refuses("setStay 10", x, BAD, () -> x.setStay(0, 10));
    }

    private static void promise4And16SetHeads() {
        RumourPipes x = new RumourPipes();
        Check.same("setHeads before", 10, x.setHeads(0, 99));
        Check.same("setHeads before", 99, x.setHeads(0, 0));
        Check.same("setHeads before", 0, x.setHeads(0, 4));
        Check.same("headsOf", 4, x.headsOf(0));
        Check.same("headsOf another", 10, x.headsOf(1));
        for (int floor : new int[] {-1, 6, Integer.MIN_VALUE, Integer.MAX_VALUE}) {
            Check.refuses("setHeads on " + floor, x, NO_SUCH, () -> x.setHeads(floor, 3));
            Check.refuses("setHeads on " + floor + ", both wrong", x, NO_SUCH, () -> x.setHeads(floor, 100));
            Check.refuses("headsOf " + floor, x, NO_SUCH, () -> x.headsOf(floor));
        }
        Check.refuses("setHeads -1", x, BAD, () -> x.setHeads(0, -1));
        Check.refuses("setHeads 100", x, BAD, () -> x.setHeads(0, 100));
    }

    private static void promise5And18SetStairs() {
        RumourPipes x = new RumourPipes();
        Check.same("setStairs before", 3, x.setStairs(4, 9));
        Check.same("setStairs before", 9, x.setStairs(4, 1));
        Check.same("setStairs before", 1, x.setStairs(4, 6));
        Check.same("stairsOf", 6, x.stairsOf(4));
        Check.same("stairsOf others", 3, x.stairsOf(3));
        Check.same("stairs up", 6, x.pipe(4, 5));
        Check.same("stairs down", 6, x.pipe(5, 4));
        x.turnStairs(4);
        Check.same("setStairs on shut ones", 6, x.setStairs(4, 2));
        Check.same("setStairs does not open them", -1, x.pipe(4, 5));
        for (int floor : new int[] {-1, 5, 6, Integer.MIN_VALUE, Integer.MAX_VALUE}) {
            Check.refuses("setStairs on " + floor, x, NO_SUCH, () -> x.setStairs(floor, 3));
            Check.refuses("setStairs on " + floor + ", both wrong", x, NO_SUCH, () -> x.setStairs(floor, 10));
            Check.refuses("stairsOf " + floor, x, NO_SUCH, () -> x.stairsOf(floor));
        }
        Check.refuses("setStairs 0", x, BAD, () -> x.setStairs(0, 0));
        Check.refuses("setStairs 10", x, BAD, () -> x.setStairs(0, 10));
    }

    private static void promise6And19TurnStairs() {
        RumourPipes x = new RumourPipes();
        Check.is("turnStairs shuts", !x.turnStairs(2));
        Check.is("isOpen of shut ones", !x.isOpen(2));
        Check.is("isOpen of others", x.isOpen(1) && x.isOpen(3));
        Check.same("no pipe by shut stairs", -1, x.pipe(2, 3));
        Check.same("no pipe down either", -1, x.pipe(3, 2));
        Check.same("stairsOf shut ones", 3, x.stairsOf(2));
        Check.is("turnStairs opens", x.turnStairs(2));
        Check.is("isOpen again", x.isOpen(2));
        Check.same("a pipe again", 3, x.pipe(2, 3));
        for (int floor : new int[] {-1, 5, 6, Integer.MIN_VALUE, Integer.MAX_VALUE}) {
            Check.refuses("turnStairs " + floor, x, NO_SUCH, () -> x.turnStairs(floor));
            Check.refuses("isOpen " + floor, x, NO_SUCH, () -> x.isOpen(floor));
        }
    }

    private static void promise7AddLift() {
        RumourPipes x = new RumourPipes();
        Check.same("addLift, the first", 0, x.addLift(0, 5, 5, 1));
        Check.same("addLift, one floor farther", 1, x.addLift(4, 5, 1, 9));
        Check.same("addLift", 2, x.addLift(0, 5, 2, 1));
        Check.same("addLift, the last", 3, x.addLift(0, 5, 1, 9));
        for (int lift = 0; lift < 4; lift++) {
            Check.is("a new lift runs: " + lift, x.runs(lift));
        }
    }

    private static void promise7AddLiftRefuses() {
        RumourPipes x = new RumourPipes();
        for (int floor : new int[] {-1, 6, Integer.MIN_VALUE, Integer.MAX_VALUE}) {
            Check.refuses("addLift from " + floor, x, NO_SUCH, () -> x.addLift(floor, 5, 1, 1));
            Check.refuses("addLift to " + floor, x, NO_SUCH, () -> x.addLift(0, floor, 1, 1));
            Check.refuses("addLift to " + floor + ", all wrong", x, NO_SUCH, () -> x.addLift(0, floor, 0, 0));
        }
        Check.refuses("addLift to the same floor", x, BAD, () -> x.addLift(2, 2, 1, 1));
        Check.refuses("addLift to the same floor, every 0", x, BAD, () -> x.addLift(2, 2, 0, 1));
        Check.refuses("addLift downwards", x, BAD, () -> x.addLift(3, 2, 1, 1));
        Check.refuses("addLift downwards, every -1", x, BAD, () -> x.addLift(3, 2, -1, 1));
        Check.refuses("addLift every 0", x, BAD, () -> x.addLift(1, 4, 0, 1));
        Check.refuses("addLift every 4 of 3", x, BAD, () -> x.addLift(1, 4, 4, 1));
        Check.refuses("addLift waits 0", x, BAD, () -> x.addLift(1, 4, 1, 0));
        Check.refuses("addLift waits 10", x, BAD, () -> x.addLift(1, 4, 1, 10));
        for (int lift = 0; lift < 4; lift++) {
            x.addLift(1, 4, 3, 9);
        }
        Check.refuses("addLift, a fifth", x, FULL, () -> x.addLift(1, 4, 1, 1));
        Check.refuses("addLift, a fifth, floor wrong", x, NO_SUCH, () -> x.addLift(1, 6, 1, 1));
        Check.refuses("addLift, a fifth, waits wrong", x, BAD, () -> x.addLift(1, 4, 1, 0));
        x.turnLift(0);
        Check.refuses("addLift, a fifth, one stands", x, FULL, () -> x.addLift(1, 4, 1, 1));
    }

    private static void promise8And20TurnLift() {
        RumourPipes x = new RumourPipes();
        Check.refuses("turnLift without one", x, NO_SUCH, () -> x.turnLift(0));
        x.addLift(0, 5, 5, 1);
        x.addLift(0, 4, 4, 1);
        Check.is("turnLift stops", !x.turnLift(0));
        Check.is("runs, of a stopped one", !x.runs(0));
        Check.is("runs, of another", x.runs(1));
        Check.same("no pipe by a lift that stands", -1, x.pipe(0, 5));
        Check.same("a pipe by one that runs", 3, x.pipe(0, 4));
        Check.is("turnLift lets run", x.turnLift(0));
        Check.is("runs again", x.runs(0));
        Check.same("a pipe again", 3, x.pipe(5, 0));
        for (int lift : new int[] {-1, 2, Integer.MIN_VALUE, Integer.MAX_VALUE}) {
            Check.refuses("turnLift " + lift, x, NO_SUCH, () -> x.turnLift(lift));
            Check.refuses("runs " + lift, x, NO_SUCH, () -> x.runs(lift));
        }
        x.turnLift(1);
        x.build(6);
        x.addLift(0, 5, 5, 1);
        Check.is("a lift of another tower runs", x.addLift(0, 5, 5, 1) == 1 && x.runs(0) && x.runs(1));
    }

    private static void promises12To15Counts() {
        RumourPipes x = new RumourPipes();
        x.build(9);
        x.addLift(0, 8, 8, 1);
        x.addLift(0, 8, 4, 1);
        x.startRumour(0, 1);
        x.startRumour(8, 1);
        x.startRumour(8, 1);
        x.passHours(60);
        x.passHours(1);
        Check.same("floors", 9, x.floors());
        Check.same("hours", 61, x.hours());
        Check.same("lifts", 2, x.lifts());
        Check.same("rumours", 3, x.rumours());
    }

    private static void promise21Serves() {
        RumourPipes x = new RumourPipes();
        x.build(8);
        x.addLift(1, 6, 2, 1);
        x.addLift(0, 7, 7, 1);
        boolean[] due = {false, true, false, true, false, true, false, false};
        for (int f = 0; f < 8; f++) {
            Check.is("serves(0, " + f + ")", x.serves(0, f) == due[f]);
            Check.is("serves(1, " + f + ")", x.serves(1, f) == (f == 0 || f == 7));
        }
        x.turnLift(0);
        Check.is("serves, standing", x.serves(0, 5) && !x.serves(0, 6));
        x.build(12);
        x.addLift(0, 11, 1, 1);
        Check.is("serves every floor", x.serves(0, 0) && x.serves(0, 1) && x.serves(0, 11));
        for (int wrong : new int[] {-1, 12, Integer.MIN_VALUE, Integer.MAX_VALUE}) {
            Check.refuses("serves, lift " + wrong, x, NO_SUCH, () -> x.serves(wrong, 0));
            Check.refuses("serves, floor " + wrong, x, NO_SUCH, () -> x.serves(0, wrong));
        }
        Check.refuses("serves, lift 1 of 1", x, NO_SUCH, () -> x.serves(1, 0));
    }

    private static void promise22Pipe() {
        RumourPipes x = new RumourPipes();
        Check.same("pipe to itself", -1, x.pipe(3, 3));
        Check.same("no pipe two floors up", -1, x.pipe(0, 2));
        x.addLift(0, 5, 1, 2);
        for (int apart = 1; apart <= 5; apart++) {
            Check.same("pipe, apart " + apart, 2 + apart / 2, x.pipe(0, apart));
            Check.same("pipe down, apart " + apart, 2 + apart / 2, x.pipe(5, 5 - apart));
        }
        Check.same("pipe to itself by a lift", -1, x.pipe(3, 3));
        x.setStairs(1, 1);
        Check.same("the stairs are quicker", 1, x.pipe(2, 1));
        x.turnStairs(1);
        Check.same("the stairs are shut", 2, x.pipe(2, 1));
        x.addLift(0, 4, 2, 1);
        Check.same("the second lift is quicker", 3, x.pipe(0, 4));
        Check.same("the second lift does not stop there", 4, x.pipe(0, 5));
        x.turnLift(1);
        Check.same("the second lift stands", 4, x.pipe(0, 4));
        for (int wrong : new int[] {-1, 6, Integer.MIN_VALUE, Integer.MAX_VALUE}) {
            Check.refuses("pipe from " + wrong, x, NO_SUCH, () -> x.pipe(wrong, 0));
            Check.refuses("pipe to " + wrong, x, NO_SUCH, () -> x.pipe(0, wrong));
            Check.refuses("pipe between " + wrong, x, NO_SUCH, () -> x.pipe(wrong, wrong));
        }
    }

    private static void promise23Neighbours() {
        RumourPipes x = new RumourPipes();
        Check.same("neighbours at the end", 1, x.neighbours(0));
        Check.same("neighbours between", 2, x.neighbours(3));
        Check.same("neighbours at the top", 1, x.neighbours(5));
        x.addLift(0, 5, 5, 1);
        Check.same("neighbours with a lift", 2, x.neighbours(5));
        x.addLift(0, 5, 1, 1);
        Check.same("neighbours, each counts once", 5, x.neighbours(5));
        x.turnLift(0);
        x.turnLift(1);
        x.turnStairs(4);
        Check.same("neighbours, none", 0, x.neighbours(5));
        for (int wrong : new int[] {-1, 6, Integer.MIN_VALUE, Integer.MAX_VALUE}) {
            Check.refuses("neighbours " + wrong, x, NO_SUCH, () -> x.neighbours(wrong));
        }
    }
}
