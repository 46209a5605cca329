/** A plumbing of rumours in an office tower. */
public final class RumourPipes {
    private static final int NONE = -1;

    private static final int FEWEST_FLOORS = 2;
    private static final int MOST_FLOORS = 12;
    private static final int FIRST_FLOORS = 6;
    private static final int FIRST_HEADS = 10;
    private static final int FIRST_STAY = 2;
    private static final int FIRST_STAIRS = 3;

    private static final int MOST_HEADS = 99;
    private static final int LONGEST_STAY = 9;
    private static final int LONGEST_STAIRS = 9;
    private static final int MOST_LIFTS = 4;
    private static final int LONGEST_WAIT = 9;
    private static final int MOST_RUMOURS = 8;
    private static final int GREATEST_REACH = 20;
    private static final int MOST_HOURS = 60;

    private static final int NOT_REACHED = 0;
    private static final int BELIEVES = 1;
    private static final int DENIED = 2;

    private static final int LOOK_AHEAD = 100;
    private static final long DIGEST_START = 2287;
    private static final long DIGEST_FACTOR = 31;

    private final Tower tower = new Tower();
    private final Ways ways = new Ways();
    private final Rumour[] started = new Rumour[MOST_RUMOURS];
    // Every "what would be" is played on this one, so that no call makes rows of its own.
    private final Rumour trial = new Rumour();
    private int rumourCount = 0;
    private int hour = 0;

    public RumourPipes() {
        for (int i = 0; i < MOST_RUMOURS; i++) {
            started[i] = new Rumour();
        }
    }

    // ---- the tower

    public int build(int floors) throws IllegalArgumentException {
        needArgument(floors, FEWEST_FLOORS, MOST_FLOORS);
        tower.reset(floors);
        rumourCount = 0;
        return floors - 1;
    }

    public int setStay(int floor, int hours) throws IndexOutOfBoundsException, IllegalArgumentException {
        needFloor(floor);
        needArgument(hours, 0, LONGEST_STAY);
        int before = tower.stay[floor];
        tower.stay[floor] = hours;
        return before;
    }

    public int setHeads(int floor, int heads) throws IndexOutOfBoundsException, IllegalArgumentException {
        needFloor(floor);
        needArgument(heads, 0, MOST_HEADS);
        int before = tower.heads[floor];
        tower.heads[floor] = heads;
        return before;
    }

    public int setStairs(int floor, int hours) throws IndexOutOfBoundsException, IllegalArgumentException {
        needStairs(floor);
        needArgument(hours, 1, LONGEST_STAIRS);
        int before = tower.stairs[floor];
        tower.stairs[floor] = hours;
        tower.layPipes();
        return before;
    }

    public boolean turnStairs(int floor) throws IndexOutOfBoundsException {
        needStairs(floor);
        tower.letStairs(floor, !tower.open[floor]);
        return tower.open[floor];
    }

    public int addLift(int lowest, int highest, int every, int waits)
            throws IndexOutOfBoundsException, IllegalArgumentException, IllegalStateException {
        needFloor(lowest);
        needFloor(highest);
        // A lift between a floor and itself, or downwards, leaves no "every" that would do.
        needArgument(every, 1, highest - lowest);
        needArgument(waits, 1, LONGEST_WAIT);
        if (tower.liftCount >= MOST_LIFTS) {
            throw new IllegalStateException("there are as many lifts as can be");
        }
        return tower.putLift(lowest, highest, every, waits);
    }

    public boolean turnLift(int lift) throws IndexOutOfBoundsException {
        needLift(lift);
        tower.letLift(lift, !tower.lifts[lift].running);
        return tower.lifts[lift].running;
    }

    // ---- rumours

    public int startRumour(int floor, int reach)
            throws IndexOutOfBoundsException, IllegalArgumentException, IllegalStateException {
        needFloor(floor);
        needArgument(reach, 1, GREATEST_REACH);
        if (rumourCount >= MOST_RUMOURS) {
            throw new IllegalStateException("there are as many rumours as can be");
        }
        int number = rumourCount;
        started[number].start(tower, floor, reach, hour);
        rumourCount = number + 1;
        return number;
    }

    public int startDenial(int rumour, int floor) throws IndexOutOfBoundsException, IllegalStateException {
        needRumour(rumour);
        needFloor(floor);
        Rumour denied = started[rumour];
        if (denied.state[floor] == DENIED) {
            throw new IllegalStateException("it was denied there already");
        }
        int believed = denied.state[floor] == BELIEVES ? tower.heads[floor] : 0;
        denied.bringDenial(tower, floor, hour);
        return believed;
    }

    public int passHours(int hours) throws IllegalArgumentException {
        needArgument(hours, 1, MOST_HOURS);
        int news = 0;
        for (int passed = 0; passed < hours; passed++) {
            for (int i = 0; i < rumourCount; i++) {
                news += started[i].passHour(tower, hour);
            }
            hour++;
        }
        return news;
    }

    // ---- what there is

    public int floors() {
        return tower.count;
    }

    public int hours() {
        return hour;
    }

    public int lifts() {
        return tower.liftCount;
    }

    public int rumours() {
        return rumourCount;
    }

    public int headsOf(int floor) throws IndexOutOfBoundsException {
        needFloor(floor);
        return tower.heads[floor];
    }

    public int stayOf(int floor) throws IndexOutOfBoundsException {
        needFloor(floor);
        return tower.stay[floor];
    }

    public int stairsOf(int floor) throws IndexOutOfBoundsException {
        needStairs(floor);
        return tower.stairs[floor];
    }

    public boolean isOpen(int floor) throws IndexOutOfBoundsException {
        needStairs(floor);
        return tower.open[floor];
    }

    public boolean runs(int lift) throws IndexOutOfBoundsException {
        needLift(lift);
        return tower.lifts[lift].running;
    }

    public boolean serves(int lift, int floor) throws IndexOutOfBoundsException {
        needLift(lift);
        needFloor(floor);
        return tower.lifts[lift].stops[floor];
    }

    public int pipe(int one, int other) throws IndexOutOfBoundsException {
        needFloor(one);
        needFloor(other);
        return tower.pipes[one][other];
    }

    public int neighbours(int floor) throws IndexOutOfBoundsException {
        needFloor(floor);
        int found = 0;
        for (int other = 0; other < tower.count; other++) {
            if (tower.pipes[floor][other] != NONE) {
                found++;
            }
        }
        return found;
    }

    // ---- of rumours

    public int originOf(int rumour) throws IndexOutOfBoundsException {
        needRumour(rumour);
        return started[rumour].origin;
    }

    public int reachOf(int rumour) throws IndexOutOfBoundsException {
        needRumour(rumour);
        return started[rumour].reach;
    }

    public int stateOf(int rumour, int floor) throws IndexOutOfBoundsException {
        needRumour(rumour);
        needFloor(floor);
        return started[rumour].state[floor];
    }

    public int heardAt(int rumour, int floor) throws IndexOutOfBoundsException {
        needRumour(rumour);
        needFloor(floor);
        return started[rumour].heardIn[floor];
    }

    public int deniedAt(int rumour, int floor) throws IndexOutOfBoundsException {
        needRumour(rumour);
        needFloor(floor);
        return started[rumour].deniedIn[floor];
    }

    public int pipesTo(int rumour, int floor) throws IndexOutOfBoundsException {
        needRumour(rumour);
        needFloor(floor);
        return started[rumour].pipesGone[floor];
    }

    public int believers(int rumour) throws IndexOutOfBoundsException {
        needRumour(rumour);
        return started[rumour].headsThatBelieve(tower);
    }

    public int reached(int rumour) throws IndexOutOfBoundsException {
        needRumour(rumour);
        int found = 0;
        for (int floor = 0; floor < tower.count; floor++) {
            if (started[rumour].heardIn[floor] != NONE) {
                found++;
            }
        }
        return found;
    }

    public int underWay(int rumour) throws IndexOutOfBoundsException {
        needRumour(rumour);
        int found = 0;
        for (int floor = 0; floor < tower.count; floor++) {
            if (started[rumour].isUnderWayTo(floor)) {
                found++;
            }
        }
        return found;
    }

    // ---- ways

    public int quickest(int from, int to) throws IndexOutOfBoundsException {
        needFloor(from);
        needFloor(to);
        ways.findFrom(tower, from);
        return ways.hours[to];
    }

    public int pipesBetween(int from, int to) throws IndexOutOfBoundsException {
        needFloor(from);
        needFloor(to);
        ways.findFrom(tower, from);
        return ways.pipes[to];
    }

    public int farthestFrom(int floor) throws IndexOutOfBoundsException {
        needFloor(floor);
        ways.findFrom(tower, floor);
        int farthest = floor;
        for (int to = 0; to < tower.count; to++) {
            if (ways.hours[to] > ways.hours[farthest]) {
                farthest = to;
            }
        }
        return farthest;
    }

    public int centre() {
        int best = NONE;
        int least = 0;
        for (int floor = 0; floor < tower.count; floor++) {
            ways.findFrom(tower, floor);
            int greatest = ways.greatestHours(tower.count);
            if (greatest != NONE && (best == NONE || greatest < least)) {
                best = floor;
                least = greatest;
            }
        }
        return best == NONE ? 0 : best;
    }

    public int parts() {
        int found = 0;
        for (int floor = 0; floor < tower.count; floor++) {
            ways.findFrom(tower, floor);
            // Each part is counted once: at its lowest floor.
            if (!ways.leadBelow(floor)) {
                found++;
            }
        }
        return found;
    }

    public int gainBy(int lift, int from, int to) throws IndexOutOfBoundsException {
        needLift(lift);
        needFloor(from);
        needFloor(to);
        boolean running = tower.lifts[lift].running;
        tower.letLift(lift, true);
        int with = quickest(from, to);
        tower.letLift(lift, false);
        int without = quickest(from, to);
        tower.letLift(lift, running);
        if (with == NONE) {
            return 0;
        }
        return without == NONE ? NONE : without - with;
    }

    // ---- what would be

    public int wouldHear(int rumour, int floor) throws IndexOutOfBoundsException {
        needRumour(rumour);
        needFloor(floor);
        trial.copyFrom(started[rumour]);
        trial.lookAhead(tower, hour);
        return trial.heardIn[floor];
    }

    public int believersInTheEnd(int rumour) throws IndexOutOfBoundsException {
        needRumour(rumour);
        trial.copyFrom(started[rumour]);
        trial.lookAhead(tower, hour);
        return trial.headsThatBelieve(tower);
    }

    public int quietIn(int rumour) throws IndexOutOfBoundsException {
        needRumour(rumour);
        trial.copyFrom(started[rumour]);
        int passed = trial.lookAhead(tower, hour);
        return trial.isQuiet(tower.count) ? passed : NONE;
    }

    public int believersWith(int rumour, int floor) throws IndexOutOfBoundsException {
        needRumour(rumour);
        needFloor(floor);
        trial.copyFrom(started[rumour]);
        // Where it was denied already a denial comes in vain: that is the answer without it.
        trial.bringDenial(tower, floor, hour);
        trial.lookAhead(tower, hour);
        return trial.headsThatBelieve(tower);
    }

    public int bestDenial(int rumour) throws IndexOutOfBoundsException {
        needRumour(rumour);
        int best = 0;
        int fewest = believersWith(rumour, 0);
        for (int floor = 1; floor < tower.count; floor++) {
            int heads = believersWith(rumour, floor);
            if (heads < fewest) {
                best = floor;
                fewest = heads;
            }
        }
        return best;
    }

    public int bestStairsToShut(int rumour) throws IndexOutOfBoundsException {
        needRumour(rumour);
        int best = NONE;
        int fewest = believersInTheEnd(rumour);
        for (int floor = 0; floor < tower.count - 1; floor++) {
            if (tower.open[floor]) {
                tower.letStairs(floor, false);
                int heads = believersInTheEnd(rumour);
                tower.letStairs(floor, true);
                if (heads < fewest) {
                    best = floor;
                    fewest = heads;
                }
            }
        }
        return best;
    }

    public double meanHeads() {
        int sum = 0;
        for (int floor = 0; floor < tower.count; floor++) {
            sum += tower.heads[floor];
        }
        return tower.count > 0 ? (double) sum / tower.count : 0.0;
    }

    public long digest() {
        long d = DIGEST_START;
        d = mixed(d, floors());
        d = mixed(d, hours());
        d = mixed(d, lifts());
        d = mixed(d, rumours());
        d = mixed(d, centre());
        d = mixed(d, parts());
        for (int floor = 0; floor < tower.count; floor++) {
            d = mixed(d, headsOf(floor));
            d = mixed(d, stayOf(floor));
            d = mixed(d, neighbours(floor));
            d = mixed(d, farthestFrom(floor));
            d = mixed(d, quickest(0, floor));
        }
        for (int floor = 0; floor < tower.count - 1; floor++) {
            d = mixed(d, stairsOf(floor));
            d = mixed(d, isOpen(floor) ? 1 : 0);
        }
        for (int lift = 0; lift < tower.liftCount; lift++) {
            d = mixed(d, runs(lift) ? 1 : 0);
        }
        for (int rumour = 0; rumour < rumourCount; rumour++) {
            d = withRumour(d, rumour);
        }
        return d;
    }

    private long withRumour(long before, int rumour) {
        long d = before;
        d = mixed(d, originOf(rumour));
        d = mixed(d, reachOf(rumour));
        d = mixed(d, believers(rumour));
        d = mixed(d, reached(rumour));
        d = mixed(d, underWay(rumour));
        d = mixed(d, quietIn(rumour));
        d = mixed(d, believersInTheEnd(rumour));
        d = mixed(d, bestDenial(rumour));
        d = mixed(d, bestStairsToShut(rumour));
        for (int floor = 0; floor < tower.count; floor++) {
            d = mixed(d, stateOf(rumour, floor));
            d = mixed(d, heardAt(rumour, floor));
            d = mixed(d, deniedAt(rumour, floor));
            d = mixed(d, pipesTo(rumour, floor));
        }
        return d;
    }

    private static long mixed(long d, long x) {
        return d * DIGEST_FACTOR + x;
    }

    // ---- what is asked of arguments

    private void needFloor(int floor) {
        if (floor < 0 || floor >= tower.count) {
            throw new IndexOutOfBoundsException("no such floor");
        }
    }

    private void needStairs(int floor) {
        if (floor < 0 || floor >= tower.count - 1) {
            throw new IndexOutOfBoundsException("no stairs lead up from there");
        }
    }

    private void needLift(int lift) {
        if (lift < 0 || lift >= tower.liftCount) {
            throw new IndexOutOfBoundsException("no such lift");
        }
    }

    private void needRumour(int rumour) {
        if (rumour < 0 || rumour >= rumourCount) {
            throw new IndexOutOfBoundsException("no such rumour");
        }
    }

    private static void needArgument(int value, int least, int greatest) {
        if (value < least || value > greatest) {
            throw new IllegalArgumentException("out of the range that is allowed");
        }
    }

    /** Floors, stairs and lifts, and the pipes that these make. */
    private static final class Tower {
        private int count;
        private int liftCount;
        private final int[] heads = new int[MOST_FLOORS];
        private final int[] stay = new int[MOST_FLOORS];
        private final int[] stairs = new int[MOST_FLOORS];
        private final boolean[] open = new boolean[MOST_FLOORS];
        private final Lift[] lifts = new Lift[MOST_LIFTS];
        // The hours of the pipe between two floors, NONE where there is none.
        private final int[][] pipes = new int[MOST_FLOORS][MOST_FLOORS];

        Tower() {
            for (int i = 0; i < MOST_LIFTS; i++) {
                lifts[i] = new Lift();
            }
            reset(FIRST_FLOORS);
        }

        void reset(int floors) {
            count = floors;
            liftCount = 0;
            for (int floor = 0; floor < MOST_FLOORS; floor++) {
                heads[floor] = FIRST_HEADS;
                stay[floor] = FIRST_STAY;
                stairs[floor] = FIRST_STAIRS;
                open[floor] = true;
            }
            layPipes();
        }

        int putLift(int lowest, int highest, int every, int waits) {
            int number = liftCount;
            lifts[number].set(lowest, highest, every, waits);
            liftCount = number + 1;
            layPipes();
            return number;
        }

        void letStairs(int floor, boolean isOpen) {
            open[floor] = isOpen;
            layPipes();
        }

        void letLift(int lift, boolean running) {
            lifts[lift].running = running;
            layPipes();
        }

        void layPipes() {
            for (int one = 0; one < count; one++) {
                pipes[one][one] = NONE;
                for (int other = one + 1; other < count; other++) {
                    int hours = fewestHours(one, other);
                    pipes[one][other] = hours;
                    pipes[other][one] = hours;
                }
            }
        }

        private int fewestHours(int low, int high) {
            int fewest = high - low == 1 && open[low] ? stairs[low] : NONE;
            for (int i = 0; i < liftCount; i++) {
                int hours = lifts[i].hoursBetween(low, high);
                if (hours != NONE && (fewest == NONE || hours < fewest)) {
                    fewest = hours;
                }
            }
            return fewest;
        }
    }

    private static final class Lift {
        private boolean running = false;
        private int waits = 0;
        private final boolean[] stops = new boolean[MOST_FLOORS];

        void set(int lowest, int highest, int every, int hours) {
            running = true;
            waits = hours;
            int next = lowest;
            for (int floor = 0; floor < MOST_FLOORS; floor++) {
                stops[floor] = floor == next && floor <= highest;
                if (stops[floor]) {
                    next = floor + every;
                }
            }
        }

        int hoursBetween(int low, int high) {
            boolean leads = running && stops[low] && stops[high];
            return leads ? waits + (high - low) / 2 : NONE;
        }
    }

    /** The quickest ways from one floor, and of these the ones with the fewest pipes. */
    private static final class Ways {
        private final int[] hours = new int[MOST_FLOORS];
        private final int[] pipes = new int[MOST_FLOORS];
        private final boolean[] settled = new boolean[MOST_FLOORS];

        void findFrom(Tower tower, int from) {
            for (int floor = 0; floor < MOST_FLOORS; floor++) {
                hours[floor] = NONE;
                pipes[floor] = NONE;
                settled[floor] = false;
            }
            hours[from] = 0;
            pipes[from] = 0;
            for (int round = 0; round < tower.count; round++) {
                int floor = nearest(tower.count);
                if (floor == NONE) {
                    return;
                }
                settled[floor] = true;
                leadOn(tower, floor);
            }
        }

        private int nearest(int count) {
            int best = NONE;
            for (int floor = 0; floor < count; floor++) {
                boolean waiting = !settled[floor] && hours[floor] != NONE;
                if (waiting && (best == NONE || isBetter(hours[floor], pipes[floor], best))) {
                    best = floor;
                }
            }
            return best;
        }

        private void leadOn(Tower tower, int floor) {
            for (int to = 0; to < tower.count; to++) {
                if (tower.pipes[floor][to] != NONE) {
                    int hoursThere = hours[floor] + tower.stay[floor] + tower.pipes[floor][to];
                    int pipesThere = pipes[floor] + 1;
                    if (hours[to] == NONE || isBetter(hoursThere, pipesThere, to)) {
                        hours[to] = hoursThere;
                        pipes[to] = pipesThere;
                    }
                }
            }
        }

        private boolean isBetter(int hoursThere, int pipesThere, int floor) {
            return hoursThere < hours[floor] || hoursThere == hours[floor] && pipesThere < pipes[floor];
        }

        int greatestHours(int count) {
            int greatest = 0;
            for (int to = 0; to < count; to++) {
                if (hours[to] == NONE) {
                    return NONE;
                }
                greatest = Math.max(greatest, hours[to]);
            }
            return greatest;
        }

        boolean leadBelow(int floor) {
            for (int to = 0; to < floor; to++) {
                if (hours[to] != NONE) {
                    return true;
                }
            }
            return false;
        }
    }

    /** A rumour with its denials: what each floor knows, has to tell on, and what is under way to it. */
    private static final class Rumour {
        private int origin = 0;
        private int reach = 0;
        private final int[] state = new int[MOST_FLOORS];
        private final int[] heardIn = new int[MOST_FLOORS];
        private final int[] deniedIn = new int[MOST_FLOORS];
        private final int[] pipesGone = new int[MOST_FLOORS];
        // In which hour the floor tells on the rumour, and the denial.
        private final int[] tellsIn = new int[MOST_FLOORS];
        private final int[] deniesIn = new int[MOST_FLOORS];
        // In which hour what is under way to the floor comes; one of a kind is all that is kept.
        private final int[] comesIn = new int[MOST_FLOORS];
        private final int[] comesByPipes = new int[MOST_FLOORS];
        private final int[] denialComesIn = new int[MOST_FLOORS];

        void start(Tower tower, int floor, int farthest, int hour) {
            origin = floor;
            reach = farthest;
            for (int i = 0; i < MOST_FLOORS; i++) {
                state[i] = NOT_REACHED;
                heardIn[i] = NONE;
                deniedIn[i] = NONE;
                pipesGone[i] = NONE;
                tellsIn[i] = NONE;
                deniesIn[i] = NONE;
                comesIn[i] = NONE;
                comesByPipes[i] = NONE;
                denialComesIn[i] = NONE;
            }
            bringRumour(tower, floor, 0, hour);
        }

        void copyFrom(Rumour other) {
            origin = other.origin;
            reach = other.reach;
            System.arraycopy(other.state, 0, state, 0, MOST_FLOORS);
            System.arraycopy(other.heardIn, 0, heardIn, 0, MOST_FLOORS);
            System.arraycopy(other.deniedIn, 0, deniedIn, 0, MOST_FLOORS);
            System.arraycopy(other.pipesGone, 0, pipesGone, 0, MOST_FLOORS);
            System.arraycopy(other.tellsIn, 0, tellsIn, 0, MOST_FLOORS);
            System.arraycopy(other.deniesIn, 0, deniesIn, 0, MOST_FLOORS);
            System.arraycopy(other.comesIn, 0, comesIn, 0, MOST_FLOORS);
            System.arraycopy(other.comesByPipes, 0, comesByPipes, 0, MOST_FLOORS);
            System.arraycopy(other.denialComesIn, 0, denialComesIn, 0, MOST_FLOORS);
        }

        /** Returns whether the floor believes it just now, and not in vain. */
        private boolean bringRumour(Tower tower, int floor, int pipes, int hour) {
            if (state[floor] != NOT_REACHED) {
                return false;
            }
            state[floor] = BELIEVES;
            heardIn[floor] = hour;
            pipesGone[floor] = pipes;
            tellsIn[floor] = hour + tower.stay[floor];
            return true;
        }

        void bringDenial(Tower tower, int floor, int hour) {
            if (state[floor] == DENIED) {
                return;
            }
            state[floor] = DENIED;
            deniedIn[floor] = hour;
            deniesIn[floor] = hour + tower.stay[floor] / 2;
            tellsIn[floor] = NONE;
        }

        /** Returns how many floors come to believe it in this hour. */
        int passHour(Tower tower, int hour) {
            int news = 0;
            for (int floor = 0; floor < tower.count; floor++) {
                if (comesIn[floor] == hour) {
                    comesIn[floor] = NONE;
                    news += bringRumour(tower, floor, comesByPipes[floor], hour) ? 1 : 0;
                }
                if (denialComesIn[floor] == hour) {
                    denialComesIn[floor] = NONE;
                    bringDenial(tower, floor, hour);
                }
            }
            for (int floor = 0; floor < tower.count; floor++) {
                if (tellsIn[floor] == hour) {
                    tellsIn[floor] = NONE;
                    tellRumour(tower, floor, hour);
                }
                if (deniesIn[floor] == hour) {
                    deniesIn[floor] = NONE;
                    tellDenial(tower, floor, hour);
                }
            }
            return news;
        }

        private void tellRumour(Tower tower, int floor, int hour) {
            int pipes = pipesGone[floor] + 1;
            if (pipes > reach) {
                return;
            }
            for (int to = 0; to < tower.count; to++) {
                int comes = hour + tower.pipes[floor][to];
                boolean kept = comesIn[to] == NONE || comes < comesIn[to]
                    || comes == comesIn[to] && pipes < comesByPipes[to];
                if (tower.pipes[floor][to] != NONE && kept) {
                    comesIn[to] = comes;
                    comesByPipes[to] = pipes;
                }
            }
        }

        private void tellDenial(Tower tower, int floor, int hour) {
            for (int to = 0; to < tower.count; to++) {
                int comes = hour + tower.pipes[floor][to];
                boolean kept = denialComesIn[to] == NONE || comes < denialComesIn[to];
                if (tower.pipes[floor][to] != NONE && kept) {
                    denialComesIn[to] = comes;
                }
            }
        }

        /** Lets hours go by until all is quiet, LOOK_AHEAD at most; returns how many. */
        int lookAhead(Tower tower, int now) {
            int passed = 0;
            while (passed < LOOK_AHEAD && !isQuiet(tower.count)) {
                passHour(tower, now + passed);
                passed++;
            }
            return passed;
        }

        boolean isQuiet(int count) {
            for (int floor = 0; floor < count; floor++) {
                if (tellsIn[floor] != NONE || deniesIn[floor] != NONE || isUnderWayTo(floor)) {
                    return false;
                }
            }
            return true;
        }

        boolean isUnderWayTo(int floor) {
            return comesIn[floor] != NONE || denialComesIn[floor] != NONE;
        }

        int headsThatBelieve(Tower tower) {
            int heads = 0;
            for (int floor = 0; floor < tower.count; floor++) {
                if (state[floor] == BELIEVES) {
                    heads += tower.heads[floor];
                }
            }
            return heads;
        }
    }
}
