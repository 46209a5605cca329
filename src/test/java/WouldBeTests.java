/** Promises 39 to 46: what would be, the mean and the digest. */
public final class WouldBeTests {
    private static final Class<IndexOutOfBoundsException> NO_SUCH = IndexOutOfBoundsException.class;

    public static void main(String[] args) {
        promise39WouldHear();
        promise39ReachOfARumourUnderWay();
        promises39And40WithinAHundredHours();
        promise40BelieversInTheEnd();
        promise41QuietIn();
        promise41QuietInAHundredHours();
        promises42And43Denials();
        promise42DeniedAlready();
        promise43Ties();
        promise44BestStairsToShut();
        promise44NoneAndTies();
        promises39To44ChangeNothing();
        promises39To44Refuse();
        promise45MeanHeads();
        promise46Digest();
        promise46DigestOfAll();
        twelveFloors();
        Check.end();
    }

    private static void promise39WouldHear() {
        RumourPipes x = new RumourPipes();
        x.passHours(10);
        x.startRumour(0, 4);
        for (int f = 0; f < 5; f++) {
            Check.same("wouldHear " + f, 10 + 5 * f, x.wouldHear(0, f));
        }
        Check.same("wouldHear beyond the reach", -1, x.wouldHear(0, 5));
        x.passHours(7);
        Check.same("wouldHear, heard already", 15, x.wouldHear(0, 1));
        Check.same("wouldHear, not yet", 20, x.wouldHear(0, 2));
        x.startDenial(0, 1);
        Check.same("wouldHear, heard and denied", 15, x.wouldHear(0, 1));
        Check.same("wouldHear, not told on", -1, x.wouldHear(0, 2));
    }

    private static void promise39ReachOfARumourUnderWay() {
        RumourPipes x = new RumourPipes();
        x.startRumour(0, 2);
        x.passHours(6);
        Check.same("wouldHear within the reach", 10, x.wouldHear(0, 2));
        Check.same("wouldHear, the pipes so far count", -1, x.wouldHear(0, 3));
        Check.same("believersInTheEnd, the pipes so far count", 30, x.believersInTheEnd(0));
    }

    /** The rumour comes to the highest floor in the hour 99 and each stay on the first floor. */
    private static RumourPipes slowTower(int firstStay) {
        RumourPipes x = new RumourPipes();
        x.build(12);
        for (int f = 0; f < 11; f++) {
            x.setStay(f, 0);
            x.setStairs(f, 9);
        }
        x.setStay(11, 0);
        x.setStay(0, firstStay);
        return x;
    }

    private static void promises39And40WithinAHundredHours() {
        RumourPipes x = slowTower(0);
        x.startRumour(0, 20);
        Check.same("wouldHear in the last of 100 hours", 99, x.wouldHear(0, 11));
        Check.same("believersInTheEnd", 120, x.believersInTheEnd(0));
        x = slowTower(1);
        x.startRumour(0, 20);
        Check.same("wouldHear behind 100 hours", -1, x.wouldHear(0, 11));
        Check.same("believersInTheEnd, one floor is too late", 110, x.believersInTheEnd(0));
        x.passHours(1);
        Check.same("wouldHear an hour later", 100, x.wouldHear(0, 11));
        Check.same("believersInTheEnd an hour later", 120, x.believersInTheEnd(0));
    }

    private static void promise40BelieversInTheEnd() {
        RumourPipes x = new RumourPipes();
        x.setHeads(5, 99);
        x.startRumour(3, 2);
        Check.same("believersInTheEnd", 10 + 10 + 10 + 10 + 99, x.believersInTheEnd(0));
        x.startDenial(0, 5);
        Check.same("believersInTheEnd with a denial", 0, x.believersInTheEnd(0));
        x.turnStairs(2);
        Check.same("believersInTheEnd, stairs shut", 0, x.believersInTheEnd(0));
        x.turnStairs(4);
        x.setHeads(3, 7);
        Check.same("believersInTheEnd, the denial shut off", 17, x.believersInTheEnd(0));
    }

    private static void promise41QuietIn() {
        RumourPipes x = new RumourPipes();
        x.startRumour(0, 20);
        Check.same("the last one comes in vain in the hour 30", 31, x.quietIn(0));
        x.startRumour(0, 2);
        Check.same("told on though it goes no farther, in the hour 12", 13, x.quietIn(1));
        x.passHours(12);
        Check.same("still to be told on", 1, x.quietIn(1));
        Check.same("nothing is under way any more", 0, x.underWay(1));
        x.passHours(1);
        Check.same("quiet", 0, x.quietIn(1));
        x.startDenial(1, 0);
        Check.same("a denial makes it loud again", 21 + 4, x.quietIn(1));
        Check.same("the other one", 31 - 13, x.quietIn(0));
        for (int f = 0; f < 5; f++) {
            x.turnStairs(f);
        }
        Check.same("no pipes: just to be told on half of 2 hours later", 2, x.quietIn(1));
        x.setStay(3, 0);
        x.startDenial(1, 3);
        Check.same("and that in this hour", 2, x.quietIn(1));
        x.startRumour(3, 20);
        Check.same("to be told on in this hour", 1, x.quietIn(2));
    }

    private static void promise41QuietInAHundredHours() {
        RumourPipes x = slowTower(0);
        x.startRumour(0, 11);
        Check.same("quietIn, at most", 100, x.quietIn(0));
        x = slowTower(1);
        x.startRumour(0, 11);
        Check.same("quietIn, an hour more", -1, x.quietIn(0));
        x.passHours(1);
        Check.same("quietIn, an hour later", 100, x.quietIn(0));
        x.passHours(60);
        x.passHours(39);
        Check.same("quietIn, just before", 1, x.quietIn(0));
        x.passHours(1);
        Check.same("quietIn, then", 0, x.quietIn(0));
    }

    /** Heads 1, 2, 4 .. 32, a rumour under way from the floor 2 up and down, and stairs shut behind it. */
    private static RumourPipes partedTower() {
        RumourPipes x = new RumourPipes();
        for (int f = 0; f < 6; f++) {
            x.setHeads(f, 1 << f);
        }
        x.startRumour(2, 20);
        x.passHours(3);
        x.turnStairs(1);
        x.turnStairs(2);
        return x;
    }

    private static void promises42And43Denials() {
        RumourPipes x = partedTower();
        Check.same("believersInTheEnd of all", 63, x.believersInTheEnd(0));
        int[] due = {60, 60, 59, 7, 7, 7};
        for (int f = 0; f < 6; f++) {
            Check.same("believersWith " + f, due[f], x.believersWith(0, f));
        }
        Check.same("bestDenial", 3, x.bestDenial(0));
        x.turnStairs(3);
        int[] shut = {12, 12, 11, 7, 15, 15};
        for (int f = 0; f < 6; f++) {
            Check.same("believersWith, more shut, " + f, shut[f], x.believersWith(0, f));
        }
        Check.same("bestDenial, more shut", 3, x.bestDenial(0));
        x.turnStairs(3);
        x.setHeads(2, 99);
        Check.same("bestDenial where the heads are", 2, x.bestDenial(0));
    }

    private static void promise42DeniedAlready() {
        RumourPipes x = partedTower();
        x.startDenial(0, 3);
        Check.same("believersWith, denied already", 7, x.believersWith(0, 3));
        Check.same("believersInTheEnd is the same", 7, x.believersInTheEnd(0));
        Check.same("believersWith, the other part", 4, x.believersWith(0, 0));
        Check.same("bestDenial then", 2, x.bestDenial(0));
    }

    private static void promise43Ties() {
        RumourPipes x = new RumourPipes();
        x.startRumour(3, 20);
        Check.same("bestDenial, all are as good", 0, x.bestDenial(0));
        x.turnStairs(0);
        Check.same("bestDenial, all but the one that is shut off", 1, x.bestDenial(0));
        x.passHours(60);
        x.startDenial(0, 3);
        x.passHours(60);
        Check.same("bestDenial, nobody believes it any more", 0, x.bestDenial(0));
    }

    private static void promise44BestStairsToShut() {
        RumourPipes x = new RumourPipes();
        for (int f = 0; f < 6; f++) {
            x.setHeads(f, 1 << f);
        }
        x.startRumour(2, 20);
        Check.same("bestStairsToShut", 2, x.bestStairsToShut(0));
        x.setHeads(0, 99);
        Check.same("bestStairsToShut below", 1, x.bestStairsToShut(0));
        x.turnStairs(1);
        Check.same("bestStairsToShut of the open ones", 2, x.bestStairsToShut(0));
        x.passHours(3);
        Check.same("bestStairsToShut ahead of it", 3, x.bestStairsToShut(0));
        x.passHours(60);
        Check.same("bestStairsToShut, too late", -1, x.bestStairsToShut(0));
    }

    private static void promise44NoneAndTies() {
        RumourPipes x = new RumourPipes();
        for (int f = 0; f < 5; f++) {
            x.setHeads(f, 0);
        }
        x.startRumour(1, 20);
        Check.same("bestStairsToShut, of several the lowest", 1, x.bestStairsToShut(0));
        x.setHeads(5, 0);
        Check.same("bestStairsToShut, none are fewer", -1, x.bestStairsToShut(0));
        x.build(2);
        x.startRumour(1, 1);
        Check.same("bestStairsToShut, just one", 0, x.bestStairsToShut(0));
        x.turnStairs(0);
        Check.same("bestStairsToShut, none open", -1, x.bestStairsToShut(0));
        x.build(12);
        x.startRumour(0, 20);
        for (int f = 0; f < 11; f++) {
            x.setHeads(f, 0);
        }
        x.addLift(0, 10, 1, 1);
        Check.same("bestStairsToShut, the highest ones", 10, x.bestStairsToShut(0));
    }

    private static void promises39To44ChangeNothing() {
        RumourPipes x = partedTower();
        x.startDenial(0, 0);
        x.startRumour(4, 3);
        x.addLift(0, 5, 5, 2);
        long before = x.digest();
        for (int rumour = 0; rumour < 2; rumour++) {
            for (int f = 0; f < 6; f++) {
                x.wouldHear(rumour, f);
                x.believersWith(rumour, f);
            }
            x.believersInTheEnd(rumour);
            x.quietIn(rumour);
            x.bestDenial(rumour);
            x.bestStairsToShut(rumour);
        }
        Check.same("the digest is as before", before, x.digest());
        Check.is("stairs are as before", x.isOpen(0) && !x.isOpen(1) && !x.isOpen(2) && x.isOpen(3));
        Check.same("pipes are as before", 3, x.pipe(3, 4));
        Check.same("hours are as before", 3, x.hours());
    }

    private static void promises39To44Refuse() {
        RumourPipes x = new RumourPipes();
        x.startRumour(0, 20);
        for (int wrong : new int[] {-1, 1, 8, Integer.MIN_VALUE, Integer.MAX_VALUE}) {
            Check.refuses("wouldHear of " + wrong, x, NO_SUCH, () -> x.wouldHear(wrong, 0));
            Check.refuses("believersInTheEnd of " + wrong, x, NO_SUCH, () -> x.believersInTheEnd(wrong));
            Check.refuses("quietIn of " + wrong, x, NO_SUCH, () -> x.quietIn(wrong));
            Check.refuses("believersWith of " + wrong, x, NO_SUCH, () -> x.believersWith(wrong, 0));
            Check.refuses("bestDenial of " + wrong, x, NO_SUCH, () -> x.bestDenial(wrong));
            Check.refuses("bestStairsToShut of " + wrong, x, NO_SUCH, () -> x.bestStairsToShut(wrong));
        }
        for (int wrong : new int[] {-1, 6, Integer.MIN_VALUE, Integer.MAX_VALUE}) {
            Check.refuses("wouldHear on " + wrong, x, NO_SUCH, () -> x.wouldHear(0, wrong));
            Check.refuses("believersWith on " + wrong, x, NO_SUCH, () -> x.believersWith(0, wrong));
        }
    }

    private static void promise45MeanHeads() {
        RumourPipes x = new RumourPipes();
        Check.same("meanHeads", 10.0, x.meanHeads());
        x.setHeads(0, 11);
        Check.same("meanHeads, not whole", 61.0 / 6, x.meanHeads());
        x.build(2);
        x.setHeads(0, 0);
        x.setHeads(1, 99);
        Check.same("meanHeads of two", 49.5, x.meanHeads());
        x.setHeads(1, 0);
        Check.same("meanHeads, none", 0.0, x.meanHeads());
    }

    private static void promise46Digest() {
        RumourPipes x = new RumourPipes();
        x.build(2);
        // floors, hours, lifts, rumours, centre, parts; each floor; stairs; the lift.
        long[] numbers = {2, 0, 1, 0, 0, 1, 10, 2, 1, 1, 0, 10, 2, 1, 0, 3, 3, 1, 1};
        x.addLift(0, 1, 1, 1);
        long d = 2287;
        for (long number : numbers) {
            d = d * 31 + number;
        }
        Check.same("digest of two floors", d, x.digest());
        Check.same("digest again", d, x.digest());
    }

    /** Every question of the digest, asked here one by one in the document's order. */
    private static void promise46DigestOfAll() {
        RumourPipes x = partedTower();
        x.addLift(0, 4, 2, 3);
        x.addLift(0, 5, 1, 9);
        x.turnLift(1);
        x.startDenial(0, 5);
        x.startRumour(1, 1);
        x.passHours(2);
        long[] d = {2287};
        mix(d, x.floors(), x.hours(), x.lifts(), x.rumours(), x.centre(), x.parts());
        for (int f = 0; f < 6; f++) {
            mix(d, x.headsOf(f), x.stayOf(f), x.neighbours(f), x.farthestFrom(f), x.quickest(0, f));
        }
        for (int f = 0; f < 5; f++) {
            mix(d, x.stairsOf(f), x.isOpen(f) ? 1 : 0);
        }
        mix(d, x.runs(0) ? 1 : 0, x.runs(1) ? 1 : 0);
        for (int r = 0; r < 2; r++) {
            mix(d, x.originOf(r), x.reachOf(r), x.believers(r), x.reached(r), x.underWay(r), x.quietIn(r));
            mix(d, x.believersInTheEnd(r), x.bestDenial(r), x.bestStairsToShut(r));
            for (int f = 0; f < 6; f++) {
                mix(d, x.stateOf(r, f), x.heardAt(r, f), x.deniedAt(r, f), x.pipesTo(r, f));
            }
        }
        Check.same("digest of all", d[0], x.digest());
    }

    private static void twelveFloors() {
        RumourPipes x = new RumourPipes();
        x.build(12);
        x.startRumour(0, 20);
        x.passHours(57);
        Check.same("reached, the hour is 57", 12, x.reached(0));
        Check.same("underWay, to the one below the highest when that tells on", 0, x.underWay(0));
        x.passHours(1);
        Check.same("underWay then", 1, x.underWay(0));
        Check.same("believers", 120, x.believers(0));
        Check.same("quietIn", 3, x.quietIn(0));
        Check.same("bestDenial", 0, x.bestDenial(0));
        Check.same("bestStairsToShut", -1, x.bestStairsToShut(0));
        Check.same("believersWith the highest", 0, x.believersWith(0, 11));
        Check.same("parts", 1, x.parts());
        Check.same("neighbours of the highest", 1, x.neighbours(11));
        Check.same("farthestFrom the highest", 0, x.farthestFrom(11));
        Check.same("meanHeads", 10.0, x.meanHeads());
    }

    private static void mix(long[] d, int... numbers) {
        for (int number : numbers) {
            d[0] = d[0] * 31 + number;
        }
    }
}
