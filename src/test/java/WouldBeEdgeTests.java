import java.math.BigInteger;
import java.util.List;
import java.util.function.IntFunction;
import java.util.function.Supplier;

/** Edges of promises 39 to 46; each test stands below its sentence. */
public final class WouldBeEdgeTests {
    public static void main(String[] args) {
        promise39Numbers();
        promise39HourInWhichItDid();
        promise39DoesNot();
        promise39WithinAHundredHours();
        promise40Numbers();
        promise40LeastAndMost();
        promise40BehindAHundredHours();
        promise40DenialsWithinAHundredHours();
        promise41Numbers();
        promise41QuietNow();
        promise41StillToBeToldOn();
        promise41UnderWayInVain();
        promise41AsManyPipesAsItsReach();
        promise41AtMostAHundred();
        promise42Numbers();
        promise42StartedNow();
        promise42LeastAndMost();
        promise42BehindAHundredHours();
        promise42DeniedAlready();
        promise43Numbers();
        promise43Smallest();
        promise43Several();
        promise43DeniedAlready();
        promise44Numbers();
        promise44OpenStairs();
        promise44ShuttingNow();
        promise44Several();
        promise44None();
        promise44BehindAHundredHours();
        promises39To44ChangeNothing();
        promise45LeastAndGreatest();
        promise45NotWhole();
        promise46LeastAndMost();
        promise46WrapsAround();
        promise46Counts();
        Check.end();
    }

    private static RumourPipes tower(int floors) {
        RumourPipes x = new RumourPipes();
        x.build(floors);
        return x;
    }

    /** Between the lowest and the highest floor a rumour and a denial go 99 hours, and the stay on the lowest one. */
    private static RumourPipes slowTower(int firstStay) {
        RumourPipes x = tower(12);
        for (int f = 0; f < 12; f++) {
            x.setStay(f, 0);
        }
        for (int f = 0; f < 11; f++) {
            x.setStairs(f, 9);
        }
        x.setStay(0, firstStay);
        return x;
    }

    private static RumourPipes rumourInSlowTower(int firstStay) {
        RumourPipes x = slowTower(firstStay);
        x.startRumour(0, 20);
        return x;
    }

    // "Throws IndexOutOfBoundsException if there is no such rumour or floor"
    private static void promise39Numbers() {
        Edges.takesRumours("wouldHear, rumour", (x, rumour) -> x.wouldHear(rumour, 0));
        Edges.takesFloors("wouldHear, floor", (x, floor) -> x.wouldHear(0, floor));
        Edges.refuses("wouldHear, both wrong", Edges::busyTower, Edges.NO_SUCH, x -> x.wouldHear(2, 3));
    }

    // "that in which it did, if it did"
    private static void promise39HourInWhichItDid() {
        RumourPipes x = tower(2);
        x.startRumour(1, 20);
        Check.same("the hour 0", 0, x.wouldHear(0, 1));
        for (int i = 0; i < 4; i++) {
            x.passHours(60);
        }
        Check.same("the hour 0, long ago", 0, x.wouldHear(0, 1));
        Check.same("the hour 5, long ago", 5, x.wouldHear(0, 0));
        x.startDenial(0, 0);
        x.passHours(60);
        Check.same("long ago, and denied", 5, x.wouldHear(0, 0));
    }

    // "-1 if it does not"
    private static void promise39DoesNot() {
        RumourPipes x = tower(4);
        x.turnStairs(2);
        x.startRumour(1, 1);
        x.startDenial(0, 0);
        Check.same("denied first", -1, x.wouldHear(0, 0));
        Check.same("shut off", -1, x.wouldHear(0, 3));
        x.turnStairs(2);
        Check.same("beyond its reach", -1, x.wouldHear(0, 3));
        Check.same("told on before the denial comes", 5, x.wouldHear(0, 2));
        x.startDenial(0, 1);
        Check.same("not told on any more", -1, x.wouldHear(0, 2));
    }

    // "within 100 hours"
    private static void promise39WithinAHundredHours() {
        for (int before : new int[] {0, 1, 60}) {
            for (int stay = 0; stay <= 2; stay++) {
                RumourPipes x = slowTower(stay);
                if (before > 0) {
                    x.passHours(before);
                }
                x.startRumour(0, 20);
                Check.same("the last of 100 hours is its hour 99", stay == 0 ? before + 99 : -1, x.wouldHear(0, 11));
                Check.same("the floor below", before + 90 + stay, x.wouldHear(0, 10));
                x.passHours(1);
                Check.same("an hour later", stay <= 1 ? before + 99 + stay : -1, x.wouldHear(0, 11));
            }
        }
    }

    // "Throws IndexOutOfBoundsException if there is no such rumour"
    private static void promise40Numbers() {
        Edges.takesRumours("believersInTheEnd", RumourPipes::believersInTheEnd);
    }

    // "Returns how many heads believe it"
    private static void promise40LeastAndMost() {
        RumourPipes x = slowTower(0);
        for (int f = 0; f < 12; f++) {
            x.setHeads(f, 99);
        }
        x.startRumour(0, 20);
        Check.same("the most", 12 * 99, x.believersInTheEnd(0));
        x.startDenial(0, 0);
        Check.same("none, denied at once", 0, x.believersInTheEnd(0));
        x.startRumour(0, 20);
        for (int f = 0; f < 12; f++) {
            x.setHeads(f, 0);
        }
        Check.same("none are there", 0, x.believersInTheEnd(1));
    }

    // "behind 100 hours"
    private static void promise40BehindAHundredHours() {
        Check.same("all come within 100 hours", 120, rumourInSlowTower(0).believersInTheEnd(0));
        RumourPipes x = rumourInSlowTower(1);
        Check.same("one comes an hour too late", 110, x.believersInTheEnd(0));
        x.passHours(1);
        Check.same("but an hour later it does not", 120, x.believersInTheEnd(0));
    }

    // "behind 100 hours"
    private static void promise40DenialsWithinAHundredHours() {
        for (int stay = 1; stay <= 2; stay++) {
            RumourPipes x = slowTower(stay);
            x.startRumour(11, 20);
            x.passHours(60);
            x.passHours(60);
            x.startDenial(0, 0);
            Check.same("denied on all floors within 100 hours, or on all but one", stay == 1 ? 0 : 10,
                x.believersInTheEnd(0));
            Check.same("believed on 11 floors now", 110, x.believers(0));
        }
    }

    // "Throws IndexOutOfBoundsException if there is no such rumour"
    private static void promise41Numbers() {
        Edges.takesRumours("quietIn", RumourPipes::quietIn);
    }

    // "0 if so now"
    private static void promise41QuietNow() {
        RumourPipes x = tower(2);
        x.startRumour(0, 20);
        x.startRumour(0, 20);
        x.passHours(10);
        Check.same("an hour before", 1, x.quietIn(0));
        x.passHours(1);
        Check.same("now", 0, x.quietIn(0));
        x.passHours(60);
        Check.same("long ago", 0, x.quietIn(0));
        x.startDenial(1, 0);
        Check.same("another rumour is nothing to it", 0, x.quietIn(0));
        Check.same("that one is denied there and back", 1 + 3 + 1 + 3 + 1, x.quietIn(1));
    }

    // "nothing of it is under way, or still to be told on"
    private static void promise41StillToBeToldOn() {
        for (int stay = 0; stay <= 9; stay++) {
            RumourPipes x = tower(2);
            x.turnStairs(0);
            x.setStay(0, stay);
            x.startRumour(0, 20);
            Check.same("the rumour, stay " + stay, stay + 1, x.quietIn(0));
            x.startDenial(0, 0);
            Check.same("the denial, stay " + stay, stay / 2 + 1, x.quietIn(0));
        }
    }

    // "nothing of it is under way"
    private static void promise41UnderWayInVain() {
        RumourPipes x = tower(2);
        x.setStay(0, 0);
        x.setStay(1, 0);
        x.setStairs(0, 9);
        x.startRumour(0, 20);
        Check.same("there in the hour 9, back in the hour 18", 19, x.quietIn(0));
        x.startRumour(0, 20);
        x.startDenial(1, 1);
        Check.same("the rumour in the hour 9, the denial in the hour 9, and back in the hour 18", 19, x.quietIn(1));
    }

    // "also where it went as many pipes as its reach, and will go no farther"
    private static void promise41AsManyPipesAsItsReach() {
        RumourPipes x = tower(3);
        x.setStay(1, 9);
        x.startRumour(0, 1);
        Check.same("there in the hour 5, told on in the hour 14", 15, x.quietIn(0));
        x.startRumour(0, 2);
        Check.same("there in the hour 17, told on in the hour 19", 20, x.quietIn(1));
        x.startRumour(0, 3);
        Check.same("back from there in the hour 22, in vain", 23, x.quietIn(2));
    }

    // "at most 100; -1 if not by then"
    private static void promise41AtMostAHundred() {
        for (int stay = 0; stay <= 2; stay++) {
            RumourPipes x = slowTower(stay);
            x.startRumour(0, 11);
            Check.same("in 100 hours, or later", stay == 0 ? 100 : -1, x.quietIn(0));
            x.passHours(1);
            Check.same("an hour later", stay <= 1 ? 99 + stay : -1, x.quietIn(0));
            x.passHours(60);
            Check.same("61 hours later", 39 + stay, x.quietIn(0));
        }
    }

    // "Throws IndexOutOfBoundsException if there is no such rumour or floor"
    private static void promise42Numbers() {
        Edges.takesRumours("believersWith, rumour", (x, rumour) -> x.believersWith(rumour, 0));
        Edges.takesFloors("believersWith, floor", (x, floor) -> x.believersWith(0, floor));
        Edges.refuses("believersWith, both wrong", Edges::busyTower, Edges.NO_SUCH, x -> x.believersWith(2, 3));
    }

    // "if a denial was started on the floor now, and nothing else was done"
    private static void promise42StartedNow() {
        RumourPipes x = tower(2);
        x.turnStairs(0);
        x.startRumour(0, 20);
        x.setStay(1, 9);
        x.passHours(2);
        x.turnStairs(0);
        Check.same("in the hour of telling, before it is told on", 0, x.believersWith(0, 0));
        Check.same("where it comes in the hour 5, denied before", 0, x.believersWith(0, 1));
        Check.same("without it", 20, x.believersInTheEnd(0));
        x.passHours(1);
        x.turnStairs(0);
        Check.same("in the hour behind it, the pipe shut", 10, x.believersWith(0, 0));
        Check.same("on the other one, the pipe shut", 10, x.believersWith(0, 1));
    }

    // "Returns how many heads would believe it"
    private static void promise42LeastAndMost() {
        RumourPipes x = slowTower(0);
        for (int f = 0; f < 12; f++) {
            x.setHeads(f, 99);
        }
        x.startRumour(0, 20);
        Check.same("none", 0, x.believersWith(0, 0));
        x.passHours(60);
        x.passHours(60);
        x.turnStairs(10);
        Check.same("all but those on the highest floor", 11 * 99, x.believersWith(0, 11));
        Check.same("just those on the highest floor", 99, x.believersWith(0, 10));
        Check.same("in both parts", 99, x.believersWith(0, 0));
    }

    // "behind 100 hours"
    private static void promise42BehindAHundredHours() {
        for (int stay = 0; stay <= 4; stay++) {
            RumourPipes x = slowTower(stay);
            x.startRumour(11, 20);
            x.passHours(60);
            x.passHours(60);
            Check.same("half of the stay later it comes in the hour 99 or 100", stay <= 1 ? 0 : 10,
                x.believersWith(0, 0));
        }
    }

    // "that without it, if it was denied there already"
    private static void promise42DeniedAlready() {
        RumourPipes x = tower(4);
        x.startRumour(0, 20);
        x.startDenial(0, 3);
        x.turnStairs(1);
        Check.same("without it", 20, x.believersInTheEnd(0));
        Check.same("denied there already", 20, x.believersWith(0, 3));
        x.passHours(10);
        Check.same("denied there by one that came", 2, x.stateOf(0, 2));
        Check.same("denied there already by that", 20, x.believersWith(0, 2));
        x.turnStairs(1);
        Check.same("what it did there is over, also if the stairs are open again", 20, x.believersWith(0, 2));
        Check.same("not denied there", 0, x.believersWith(0, 1));
    }

    // "Throws IndexOutOfBoundsException if there is no such rumour"
    private static void promise43Numbers() {
        Edges.takesRumours("bestDenial", RumourPipes::bestDenial);
    }

    /** The rumour is on the highest floor alone, and goes nowhere. */
    private static RumourPipes aloneOnTop(int floors) {
        RumourPipes x = tower(floors);
        x.turnStairs(floors - 2);
        x.startRumour(floors - 1, 20);
        return x;
    }

    // "Returns the floor with the smallest believersWith()"
    private static void promise43Smallest() {
        Check.same("the highest one of two", 1, aloneOnTop(2).bestDenial(0));
        Check.same("the highest one of twelve", 11, aloneOnTop(12).bestDenial(0));
        RumourPipes x = tower(3);
        x.startRumour(0, 20);
        x.passHours(60);
        x.turnStairs(0);
        x.turnStairs(1);
        x.setHeads(1, 11);
        Check.same("the one with a head more", 1, x.bestDenial(0));
        x.setHeads(2, 12);
        Check.same("the one with another head more", 2, x.bestDenial(0));
    }

    // "of several the smallest number"
    private static void promise43Several() {
        RumourPipes x = aloneOnTop(12);
        x.setHeads(11, 0);
        Check.same("all of them", 0, x.bestDenial(0));
        x = tower(12);
        x.startRumour(11, 20);
        x.turnStairs(4);
        x.passHours(60);
        Check.same("one of the part in which it is", 5, x.bestDenial(0));
    }

    // "with the smallest believersWith()", which is "that without it, if it was denied there already"
    private static void promise43DeniedAlready() {
        RumourPipes x = tower(3);
        x.startRumour(0, 20);
        x.passHours(60);
        x.turnStairs(0);
        x.turnStairs(1);
        x.startDenial(0, 0);
        Check.same("0 was denied, 1 and 2 are as good", 1, x.bestDenial(0));
        x.startDenial(0, 1);
        Check.same("0 and 1 were denied", 2, x.bestDenial(0));
        x.startDenial(0, 2);
        Check.same("all were denied, and are as good", 0, x.bestDenial(0));
    }

    // "Throws IndexOutOfBoundsException if there is no such rumour"
    private static void promise44Numbers() {
        Edges.takesRumours("bestStairsToShut", RumourPipes::bestStairsToShut);
    }

    private static RumourPipes headsOnTop(int floors, int from) {
        RumourPipes x = tower(floors);
        for (int f = 0; f < floors - 1; f++) {
            x.setHeads(f, 0);
        }
        x.startRumour(from, 20);
        return x;
    }

    // "Returns the floor below the open stairs"
    private static void promise44OpenStairs() {
        RumourPipes x = headsOnTop(3, 0);
        x.turnStairs(0);
        x.addLift(0, 1, 1, 1);
        Check.same("the others are shut already", 1, x.bestStairsToShut(0));
        x.turnStairs(1);
        x.addLift(1, 2, 1, 1);
        Check.same("all are shut already", -1, x.bestStairsToShut(0));
        Check.same("the lowest ones", 0, headsOnTop(12, 0).bestStairsToShut(0));
        Check.same("the highest ones", 10, headsOnTop(12, 10).bestStairsToShut(0));
        Check.same("the only ones", 0, headsOnTop(2, 0).bestStairsToShut(0));
    }

    // "by whose shutting now"
    private static void promise44ShuttingNow() {
        RumourPipes x = headsOnTop(3, 0);
        x.passHours(2);
        Check.same("not told on yet", 0, x.bestStairsToShut(0));
        x.passHours(1);
        Check.same("under way by the lower ones", 1, x.bestStairsToShut(0));
        x.passHours(4);
        Check.same("not told on farther yet", 1, x.bestStairsToShut(0));
        x.passHours(1);
        Check.same("under way by the higher ones", -1, x.bestStairsToShut(0));
    }

    // "the fewest heads .. of several the smallest number"
    private static void promise44Several() {
        for (int from = 0; from < 11; from++) {
            Check.same("all from there up are as good", from, headsOnTop(12, from).bestStairsToShut(0));
        }
        RumourPipes x = headsOnTop(3, 0);
        x.setHeads(1, 1);
        Check.same("a head fewer", 0, x.bestStairsToShut(0));
        x = headsOnTop(3, 1);
        x.setHeads(0, 10);
        Check.same("up and down are as good", 0, x.bestStairsToShut(0));
        x.setHeads(0, 9);
        Check.same("a head fewer by the higher ones", 1, x.bestStairsToShut(0));
    }

    // "-1 if by none fewer do"
    private static void promise44None() {
        RumourPipes x = headsOnTop(3, 0);
        x.setHeads(2, 0);
        Check.same("no heads at all", -1, x.bestStairsToShut(0));
        x = headsOnTop(3, 2);
        Check.same("all that believe it do so already", -1, x.bestStairsToShut(0));
        x = headsOnTop(3, 0);
        x.addLift(0, 2, 1, 9);
        Check.same("it goes by lift then", -1, x.bestStairsToShut(0));
        x = headsOnTop(3, 2);
        x.startDenial(0, 0);
        Check.same("shutting would keep the denial off", -1, x.bestStairsToShut(0));
    }

    // "behind 100 hours"
    private static void promise44BehindAHundredHours() {
        for (int stay = 0; stay <= 1; stay++) {
            RumourPipes x = slowTower(stay);
            for (int f = 0; f < 11; f++) {
                x.setHeads(f, 0);
            }
            x.setStairs(0, 8);
            x.addLift(0, 1, 1, 9);
            x.startRumour(0, 20);
            Check.same("with the lowest ones shut it comes in the hour 99, or 100", stay == 0 ? 1 : 0,
                x.bestStairsToShut(0));
        }
    }

    // "(nothing is changed)"
    private static void promises39To44ChangeNothing() {
        for (Supplier<RumourPipes> maker : List.<Supplier<RumourPipes>>of(Edges::busyTower, Edges::fullTower)) {
            for (int rumour = 0; rumour < 2; rumour++) {
                int asked = rumour;
                Edges.changesNothing("believersInTheEnd", maker, x -> x.believersInTheEnd(asked));
                Edges.changesNothing("quietIn", maker, x -> x.quietIn(asked));
                Edges.changesNothing("bestDenial", maker, x -> x.bestDenial(asked));
                Edges.changesNothing("bestStairsToShut", maker, x -> x.bestStairsToShut(asked));
                for (int floor = 0; floor < 3; floor++) {
                    int there = floor;
                    Edges.changesNothing("wouldHear", maker, x -> x.wouldHear(asked, there));
                    Edges.changesNothing("believersWith", maker, x -> x.believersWith(asked, there));
                }
            }
        }
    }

    // "heads, 0 to 99 (10, at first)"; "Returns the mean of heads on floors."
    private static void promise45LeastAndGreatest() {
        for (int floors : new int[] {2, 6, 12}) {
            RumourPipes x = tower(floors);
            Check.same("meanHeads at first", 10.0, x.meanHeads());
            for (int f = 0; f < floors; f++) {
                x.setHeads(f, 99);
            }
            Check.same("meanHeads, the greatest", 99.0, x.meanHeads());
            for (int f = 0; f < floors; f++) {
                x.setHeads(f, 0);
            }
            Check.same("meanHeads, the least", 0.0, x.meanHeads());
        }
    }

    // "double meanHeads()"
    private static void promise45NotWhole() {
        RumourPipes x = tower(2);
        x.setHeads(1, 11);
        Check.same("meanHeads, a half", 10.5, x.meanHeads());
        x = tower(12);
        x.setHeads(11, 9);
        Check.same("meanHeads, a twelfth less than 10", 119.0 / 12.0, x.meanHeads());
        x.build(3);
        x.setHeads(0, 0);
        Check.same("meanHeads of the floors that are there now", 20.0 / 3.0, x.meanHeads());
    }

    private static BigInteger mix(BigInteger d, long x) {
        return d.multiply(BigInteger.valueOf(31)).add(BigInteger.valueOf(x));
    }

    private static BigInteger mixAll(BigInteger before, int count, IntFunction<long[]> numbers) {
        BigInteger d = before;
        for (int i = 0; i < count; i++) {
            for (long x : numbers.apply(i)) {
                d = mix(d, x);
            }
        }
        return d;
    }

    private static long one(boolean is) {
        return is ? 1 : 0;
    }

    /** The digest with no limit to its digits; each object is asked for less than 512 calls. */
    private static BigInteger digestOf(Supplier<RumourPipes> maker) {
        RumourPipes x = maker.get();
        BigInteger d = BigInteger.valueOf(2287);
        d = mixAll(d, 1, i -> new long[] {x.floors(), x.hours(), x.lifts(), x.rumours(), x.centre(), x.parts()});
        d = mixAll(d, x.floors(), f -> new long[] {x.headsOf(f), x.stayOf(f), x.neighbours(f), x.farthestFrom(f),
            x.quickest(0, f)});
        d = mixAll(d, x.floors() - 1, f -> new long[] {x.stairsOf(f), one(x.isOpen(f))});
        d = mixAll(d, x.lifts(), i -> new long[] {one(x.runs(i))});
        for (int rumour = 0; rumour < x.rumours(); rumour++) {
            int r = rumour;
            RumourPipes y = maker.get();
            d = mixAll(d, 1, i -> new long[] {y.originOf(r), y.reachOf(r), y.believers(r), y.reached(r),
                y.underWay(r), y.quietIn(r), y.believersInTheEnd(r), y.bestDenial(r), y.bestStairsToShut(r)});
            d = mixAll(d, y.floors(), f -> new long[] {y.stateOf(r, f), y.heardAt(r, f), y.deniedAt(r, f),
                y.pipesTo(r, f)});
        }
        return d;
    }

    // "floors 2 to 12"; "at most 4"; "At most 8"
    private static void promise46LeastAndMost() {
        Check.same("digest of the smallest", digestOf(() -> tower(2)).longValue(), tower(2).digest());
        Check.same("digest of a new one", digestOf(RumourPipes::new).longValue(), new RumourPipes().digest());
        Check.same("digest of the full one", digestOf(Edges::fullTower).longValue(), Edges.fullTower().digest());
        Check.same("digest of the greatest", digestOf(Edges::greatestTower).longValue(),
            Edges.greatestTower().digest());
        Check.is("all is in the greatest one", Edges.greatestTower().lifts() == 4
            && Edges.greatestTower().rumours() == 8 && Edges.greatestTower().floors() == 12);
    }

    // "which wraps around as a 64-bit integer"
    private static void promise46WrapsAround() {
        BigInteger whole = digestOf(() -> tower(2));
        Check.is("it does not go into 64 bits", whole.bitLength() > 64);
        BigInteger rest = whole.mod(BigInteger.ONE.shiftLeft(64));
        BigInteger due = rest.testBit(63) ? rest.subtract(BigInteger.ONE.shiftLeft(64)) : rest;
        Check.is("the lowest 64 bits, with a sign", due.equals(BigInteger.valueOf(tower(2).digest())));
        boolean isBelowNought = false;
        boolean isAbove32Bits = false;
        RumourPipes x = new RumourPipes();
        for (int heads = 0; heads <= 99; heads++) {
            x.setHeads(0, heads);
            isBelowNought |= x.digest() < 0;
            isAbove32Bits |= x.digest() > Integer.MAX_VALUE;
        }
        Check.is("some are less than 0, and some more than 32 bits hold", isBelowNought && isAbove32Bits);
    }

    // "(whether something is so counts 1 or 0)"
    private static void promise46Counts() {
        RumourPipes x = tower(2);
        x.addLift(0, 1, 1, 3);
        long running = x.digest();
        x.turnLift(0);
        Check.same("the lift's 1 is the last number", running - 1, x.digest());
        x.turnLift(0);
        x.turnStairs(0);
        Check.same("isOpen is the number before it", running - 31, x.digest());
        x.turnStairs(0);
        x.setStairs(0, 4);
        Check.same("stairsOf is the number before that", running + 31 * 31, x.digest());
    }
}
