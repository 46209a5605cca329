/** Promises 33 to 38: ways through the tower. */
public final class WayTests {
    private static final Class<IndexOutOfBoundsException> NO_SUCH = IndexOutOfBoundsException.class;

    public static void main(String[] args) {
        promise33Quickest();
        promise34PipesBetween();
        promise34SlowerByFewerPipes();
        promise35FarthestFrom();
        promise36Centre();
        promise36CentreOfParts();
        promise37Parts();
        promise38GainBy();
        promise38GainByChangesNothing();
        Check.end();
    }

    private static void promise33Quickest() {
        RumourPipes x = new RumourPipes();
        Check.same("quickest to itself", 0, x.quickest(3, 3));
        Check.same("quickest by one pipe", 5, x.quickest(0, 1));
        Check.same("quickest up the tower", 25, x.quickest(0, 5));
        x.setStay(0, 9);
        Check.same("with the stay on the first floor", 32, x.quickest(0, 5));
        Check.same("without that on the last one", 25, x.quickest(5, 0));
        x.setStay(3, 0);
        Check.same("the stay of now", 30, x.quickest(0, 5));
        x.startRumour(0, 1);
        Check.same("the reach of a rumour is nothing to it", 30, x.quickest(0, 5));
        x.addLift(0, 5, 5, 9);
        Check.same("by lift", 20, x.quickest(0, 5));
        Check.same("by lift and stairs", 20 + 2 + 3, x.quickest(0, 4));
        x.turnLift(0);
        x.turnStairs(2);
        Check.same("no way", -1, x.quickest(0, 5));
        Check.same("no way down", -1, x.quickest(3, 2));
        Check.same("a way in the part", 17, x.quickest(0, 2));
        Check.same("no way, to itself", 0, x.quickest(5, 5));
        refuses(x);
    }

    private static void refuses(RumourPipes x) {
        for (int wrong : new int[] {-1, 6, Integer.MIN_VALUE, Integer.MAX_VALUE}) {
            Check.refuses("quickest from " + wrong, x, NO_SUCH, () -> x.quickest(wrong, 0));
            Check.refuses("quickest to " + wrong, x, NO_SUCH, () -> x.quickest(0, wrong));
            Check.refuses("quickest between " + wrong, x, NO_SUCH, () -> x.quickest(wrong, wrong));
            Check.refuses("pipesBetween from " + wrong, x, NO_SUCH, () -> x.pipesBetween(wrong, 0));
            Check.refuses("pipesBetween to " + wrong, x, NO_SUCH, () -> x.pipesBetween(0, wrong));
            Check.refuses("farthestFrom " + wrong, x, NO_SUCH, () -> x.farthestFrom(wrong));
        }
    }

    private static void promise34PipesBetween() {
        RumourPipes x = new RumourPipes();
        Check.same("pipesBetween itself", 0, x.pipesBetween(2, 2));
        Check.same("pipesBetween up the tower", 5, x.pipesBetween(0, 5));
        x.addLift(0, 2, 2, 8);
        Check.same("stairs are quicker by 1", 10, x.quickest(0, 2));
        Check.same("so it is their pipes", 2, x.pipesBetween(0, 2));
        x.addLift(0, 2, 2, 7);
        Check.same("as quick by lift", 10, x.quickest(0, 2));
        Check.same("so the fewest pipes", 1, x.pipesBetween(0, 2));
        Check.same("and farther", 2, x.pipesBetween(0, 3));
        Check.same("and down", 4, x.pipesBetween(5, 0));
        x.setStay(0, 9);
        x.setStay(1, 0);
        Check.same("quicker by more pipes", 2, x.pipesBetween(2, 0));
        x.turnStairs(4);
        Check.same("no way", -1, x.pipesBetween(0, 5));
    }

    private static void promise34SlowerByFewerPipes() {
        RumourPipes x = new RumourPipes();
        x.build(7);
        for (int f = 0; f < 5; f++) {
            x.setStay(f, 0);
            x.setStairs(f, 1);
        }
        x.turnStairs(5);
        x.addLift(0, 6, 6, 9);
        x.addLift(4, 6, 2, 9);
        Check.same("quickest by four stairs", 4, x.quickest(0, 4));
        Check.same("two lifts are fewer, but slower", 4, x.pipesBetween(0, 4));
        Check.same("quickest by five stairs", 5, x.quickest(0, 5));
        Check.same("two lifts and stairs are slower", 5, x.pipesBetween(0, 5));
    }

    private static void promise35FarthestFrom() {
        RumourPipes x = new RumourPipes();
        int[] due = {5, 5, 5, 0, 0, 0};
        for (int f = 0; f < 6; f++) {
            Check.same("farthestFrom " + f, due[f], x.farthestFrom(f));
        }
        x.turnStairs(2);
        int[] inParts = {2, 0, 0, 5, 3, 3};
        for (int f = 0; f < 6; f++) {
            Check.same("farthestFrom, in parts, " + f, inParts[f], x.farthestFrom(f));
        }
        x.turnStairs(1);
        Check.same("farthestFrom, alone", 2, x.farthestFrom(2));
        x.build(2);
        Check.same("farthestFrom, of two", 1, x.farthestFrom(0));
        Check.same("farthestFrom, of two", 0, x.farthestFrom(1));
    }

    private static void promise36Centre() {
        RumourPipes x = new RumourPipes();
        Check.same("centre, of two that are as good", 2, x.centre());
        x.setStairs(4, 9);
        Check.same("centre, nearer to the long stairs", 3, x.centre());
        x.build(5);
        Check.same("centre of five", 2, x.centre());
        x.build(2);
        Check.same("centre of two", 0, x.centre());
        x.setStay(0, 3);
        Check.same("centre of two, a longer stay on one", 1, x.centre());
        x.build(12);
        x.addLift(0, 11, 1, 9);
        Check.same("centre with a lift, half of the floors cut towards 0", 4, x.centre());
        x.setStay(8, 0);
        x.setStay(7, 0);
        Check.same("centre, the stay on it counts", 7, x.centre());
    }

    private static void promise36CentreOfParts() {
        RumourPipes x = new RumourPipes();
        x.setStay(0, 9);
        x.turnStairs(4);
        Check.same("centre, none counts", 0, x.centre());
        x.addLift(4, 5, 1, 1);
        Check.same("centre, all count again", 2, x.centre());
        x.turnLift(0);
        Check.same("centre, none counts again", 0, x.centre());
    }

    private static void promise37Parts() {
        RumourPipes x = new RumourPipes();
        Check.same("parts, all in one", 1, x.parts());
        x.turnStairs(1);
        Check.same("parts", 2, x.parts());
        x.addLift(0, 5, 5, 9);
        Check.same("parts, joined by a lift", 1, x.parts());
        x.turnStairs(4);
        Check.same("parts, one of them not side by side", 2, x.parts());
        x.turnLift(0);
        Check.same("parts, the lift stands", 3, x.parts());
        x.turnStairs(0);
        x.turnStairs(2);
        x.turnStairs(3);
        Check.same("parts, each floor", 6, x.parts());
        x.addLift(0, 4, 2, 1);
        Check.same("parts, each second floor joined", 4, x.parts());
    }

    private static void promise38GainBy() {
        RumourPipes x = new RumourPipes();
        x.addLift(0, 5, 5, 4);
        x.addLift(0, 1, 1, 9);
        Check.same("gainBy", 17, x.gainBy(0, 0, 5));
        Check.same("gainBy down", 17, x.gainBy(0, 5, 0));
        Check.same("gainBy farther than half the way", 20 - 13, x.gainBy(0, 0, 4));
        Check.same("gainBy, as quick without it", 0, x.gainBy(0, 0, 3));
        Check.same("gainBy, a slow lift", 0, x.gainBy(1, 0, 1));
        Check.same("gainBy to itself", 0, x.gainBy(0, 2, 2));
        x.turnLift(0);
        Check.same("gainBy of one that stands", 17, x.gainBy(0, 0, 5));
        x.turnStairs(4);
        Check.same("gainBy, a way just with it", -1, x.gainBy(0, 0, 5));
        x.turnStairs(0);
        Check.same("gainBy, a way just with it and another one", -1, x.gainBy(0, 1, 5));
        Check.same("gainBy, no way even with it", 0, x.gainBy(1, 1, 5));
        x.turnLift(1);
        Check.same("gainBy, without any way", 0, x.gainBy(0, 1, 5));
        for (int wrong : new int[] {-1, 6, Integer.MIN_VALUE, Integer.MAX_VALUE}) {
            Check.refuses("gainBy of " + wrong, x, NO_SUCH, () -> x.gainBy(wrong, 0, 1));
            Check.refuses("gainBy from " + wrong, x, NO_SUCH, () -> x.gainBy(0, wrong, 1));
            Check.refuses("gainBy to " + wrong, x, NO_SUCH, () -> x.gainBy(0, 1, wrong));
        }
        Check.refuses("gainBy of 2 of 2", x, NO_SUCH, () -> x.gainBy(2, 0, 1));
    }

    private static void promise38GainByChangesNothing() {
        RumourPipes x = new RumourPipes();
        x.addLift(0, 5, 5, 1);
        x.addLift(0, 5, 1, 1);
        x.turnLift(1);
        long before = x.digest();
        x.gainBy(0, 0, 5);
        x.gainBy(1, 0, 5);
        Check.is("one still runs, one still stands", x.runs(0) && !x.runs(1));
        Check.same("the pipes are as before", 3, x.pipe(0, 5));
        Check.same("and no more of them", -1, x.pipe(0, 4));
        Check.same("the digest is as before", before, x.digest());
    }
}
