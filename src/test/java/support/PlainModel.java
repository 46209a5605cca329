import java.util.ArrayList;
import java.util.Arrays;
import java.util.List;

/**
 * The document once more, told in another way than in RumourPipes: messages and tellings are kept in lists,
 * ways are found by trying every floor between, and every "what would be" is played on a whole copy.
 */
final class PlainModel {
    private record Lift(int lowest, int highest, int every, int waits) {
        boolean stopsAt(int floor) {
            for (int at = lowest; at <= highest; at += every) {
                if (at == floor) {
                    return true;
                }
            }
            return false;
        }
    }

    private record Message(boolean denial, int to, int hour, int pipes) {
    }

    private record Telling(boolean denial, int floor, int hour) {
    }

    private static final class Story {
        int origin;
        int reach;
        int[] state = new int[12];
        int[] heard = new int[12];
        int[] denied = new int[12];
        int[] pipes = new int[12];
        List<Message> messages = new ArrayList<>();
        List<Telling> tellings = new ArrayList<>();

        Story copy() {
            Story s = new Story();
            s.origin = origin;
            s.reach = reach;
            s.state = state.clone();
            s.heard = heard.clone();
            s.denied = denied.clone();
            s.pipes = pipes.clone();
            s.messages = new ArrayList<>(messages);
            s.tellings = new ArrayList<>(tellings);
            return s;
        }
    }

    private int n;
    private int hour = 0;
    private int[] heads;
    private int[] stay;
    private int[] stairs;
    private boolean[] open;
    private List<Lift> lifts = new ArrayList<>();
    private List<Boolean> running = new ArrayList<>();
    private List<Story> stories = new ArrayList<>();

    PlainModel() {
        build(6);
    }

    private PlainModel copy() {
        PlainModel m = new PlainModel();
        m.n = n;
        m.hour = hour;
        m.heads = heads.clone();
        m.stay = stay.clone();
        m.stairs = stairs.clone();
        m.open = open.clone();
        m.lifts = new ArrayList<>(lifts);
        m.running = new ArrayList<>(running);
        m.stories = new ArrayList<>();
        for (Story s : stories) {
            m.stories.add(s.copy());
        }
        return m;
    }

    private void floor(int floor) {
        if (floor < 0 || floor > n - 1) {
            throw new IndexOutOfBoundsException();
        }
    }

    private void lift(int lift) {
        if (lift < 0 || lift > lifts.size() - 1) {
            throw new IndexOutOfBoundsException();
        }
    }

    private Story story(int rumour) {
        if (rumour < 0 || rumour > stories.size() - 1) {
            throw new IndexOutOfBoundsException();
        }
        return stories.get(rumour);
    }

    private void within(int value, int least, int most) {
        if (value < least || value > most) {
            throw new IllegalArgumentException();
        }
    }

    int build(int floors) {
        within(floors, 2, 12);
        n = floors;
        heads = new int[n];
        stay = new int[n];
        stairs = new int[n - 1];
        open = new boolean[n - 1];
        Arrays.fill(heads, 10);
        Arrays.fill(stay, 2);
        Arrays.fill(stairs, 3);
        Arrays.fill(open, true);
        lifts.clear();
        running.clear();
        stories.clear();
        return stairs.length;
    }

    int setStay(int floor, int hours) {
        floor(floor);
        within(hours, 0, 9);
        int before = stay[floor];
        stay[floor] = hours;
        return before;
    }

    int setHeads(int floor, int count) {
        floor(floor);
        within(count, 0, 99);
        int before = heads[floor];
        heads[floor] = count;
        return before;
    }

    private void stairsThere(int floor) {
        floor(floor);
        floor(floor + 1);
    }

    int setStairs(int floor, int hours) {
        stairsThere(floor);
        within(hours, 1, 9);
        int before = stairs[floor];
        stairs[floor] = hours;
        return before;
    }

    boolean turnStairs(int floor) {
        stairsThere(floor);
        open[floor] = !open[floor];
        return open[floor];
    }

    int addLift(int lowest, int highest, int every, int waits) {
        floor(lowest);
        floor(highest);
        if (lowest >= highest || every < 1 || every > highest - lowest || waits < 1 || waits > 9) {
            throw new IllegalArgumentException();
        }
        if (lifts.size() == 4) {
            throw new IllegalStateException();
        }
        lifts.add(new Lift(lowest, highest, every, waits));
        running.add(true);
        return lifts.size() - 1;
    }

    boolean turnLift(int lift) {
        lift(lift);
        running.set(lift, !running.get(lift));
        return running.get(lift);
    }

    private void rumourComes(Story s, int floor, int pipes) {
        if (s.state[floor] == 0) {
            s.state[floor] = 1;
            s.heard[floor] = hour;
            s.pipes[floor] = pipes;
            s.tellings.add(new Telling(false, floor, hour + stay[floor]));
        }
    }

    private void denialComes(Story s, int floor) {
        if (s.state[floor] != 2) {
            s.state[floor] = 2;
            s.denied[floor] = hour;
            s.tellings.removeIf(t -> t.floor == floor);
            s.tellings.add(new Telling(true, floor, hour + stay[floor] / 2));
        }
    }

    int startRumour(int floor, int reach) {
        floor(floor);
        within(reach, 1, 20);
        if (stories.size() == 8) {
            throw new IllegalStateException();
        }
        Story s = new Story();
        s.origin = floor;
        s.reach = reach;
        Arrays.fill(s.heard, -1);
        Arrays.fill(s.denied, -1);
        Arrays.fill(s.pipes, -1);
        rumourComes(s, floor, 0);
        stories.add(s);
        return stories.size() - 1;
    }

    int startDenial(int rumour, int floor) {
        Story s = story(rumour);
        floor(floor);
        if (s.state[floor] == 2) {
            throw new IllegalStateException();
        }
        int believed = s.state[floor] * heads[floor];
        denialComes(s, floor);
        return believed;
    }

    private void tell(Story s, Telling t) {
        if (!t.denial && s.pipes[t.floor] >= s.reach) {
            return;
        }
        for (int to = 0; to < n; to++) {
            int hours = pipe(t.floor, to);
            if (hours > 0) {
                send(s, new Message(t.denial, to, hour + hours, t.denial ? 0 : s.pipes[t.floor] + 1));
            }
        }
    }

    private void send(Story s, Message sent) {
        Message kept = sent;
        for (Message m : s.messages) {
            if (m.denial == sent.denial && m.to == sent.to) {
                boolean before = m.hour != sent.hour ? m.hour < sent.hour : m.pipes <= sent.pipes;
                kept = before ? m : sent;
            }
        }
        s.messages.removeIf(m -> m.denial == sent.denial && m.to == sent.to);
        s.messages.add(kept);
    }

    private int passHour() {
        int news = 0;
        for (Story s : stories) {
            int before = reachedBy(s);
            for (int kind = 0; kind < 2; kind++) {
                boolean denial = kind == 1;
                for (Message m : List.copyOf(s.messages)) {
                    if (m.hour == hour && m.denial == denial) {
                        s.messages.remove(m);
                        if (denial) {
                            denialComes(s, m.to);
                        } else {
                            rumourComes(s, m.to, m.pipes);
                        }
                    }
                }
            }
            news += reachedBy(s) - before;
            for (Telling t : List.copyOf(s.tellings)) {
                if (t.hour == hour) {
                    s.tellings.remove(t);
                    tell(s, t);
                }
            }
        }
        hour++;
        return news;
    }

    int passHours(int hours) {
        within(hours, 1, 60);
        int news = 0;
        for (int i = 0; i < hours; i++) {
            news += passHour();
        }
        return news;
    }

    int floors() {
        return n;
    }

    int hours() {
        return hour;
    }

    int lifts() {
        return lifts.size();
    }

    int rumours() {
        return stories.size();
    }

    int headsOf(int floor) {
        floor(floor);
        return heads[floor];
    }

    int stayOf(int floor) {
        floor(floor);
        return stay[floor];
    }

    int stairsOf(int floor) {
        stairsThere(floor);
        return stairs[floor];
    }

    boolean isOpen(int floor) {
        stairsThere(floor);
        return open[floor];
    }

    boolean runs(int lift) {
        lift(lift);
        return running.get(lift);
    }

    boolean serves(int lift, int floor) {
        lift(lift);
        floor(floor);
        return lifts.get(lift).stopsAt(floor);
    }

    int pipe(int one, int other) {
        floor(one);
        floor(other);
        int best = 1000;
        for (int i = 0; i < n - 1; i++) {
            boolean joins = one == i && other == i + 1 || other == i && one == i + 1;
            if (joins && open[i]) {
                best = stairs[i];
            }
        }
        for (int i = 0; i < lifts.size(); i++) {
            Lift l = lifts.get(i);
            if (running.get(i) && one != other && l.stopsAt(one) && l.stopsAt(other)) {
                best = Math.min(best, l.waits + Math.abs(one - other) / 2);
            }
        }
        return best == 1000 ? -1 : best;
    }

    int neighbours(int floor) {
        floor(floor);
        int found = 0;
        for (int other = 0; other < n; other++) {
            found += pipe(floor, other) > 0 ? 1 : 0;
        }
        return found;
    }

    int originOf(int rumour) {
        return story(rumour).origin;
    }

    int reachOf(int rumour) {
        return story(rumour).reach;
    }

    int stateOf(int rumour, int floor) {
        Story s = story(rumour);
        floor(floor);
        return s.state[floor];
    }

    int heardAt(int rumour, int floor) {
        Story s = story(rumour);
        floor(floor);
        return s.heard[floor];
    }

    int deniedAt(int rumour, int floor) {
        Story s = story(rumour);
        floor(floor);
        return s.denied[floor];
    }

    int pipesTo(int rumour, int floor) {
        Story s = story(rumour);
        floor(floor);
        return s.pipes[floor];
    }

    int believers(int rumour) {
        Story s = story(rumour);
        int sum = 0;
        for (int f = 0; f < n; f++) {
            sum += s.state[f] == 1 ? heads[f] : 0;
        }
        return sum;
    }

    private int reachedBy(Story s) {
        return (int) Arrays.stream(s.heard).limit(n).filter(h -> h >= 0).count();
    }

    int reached(int rumour) {
        return reachedBy(story(rumour));
    }

    int underWay(int rumour) {
        return (int) story(rumour).messages.stream().mapToInt(Message::to).distinct().count();
    }

    /** Hours of the quickest ways times 100, and their fewest pipes added; 1000000 where there is no way. */
    private int[][] ways() {
        int[][] way = new int[n][n];
        for (int a = 0; a < n; a++) {
            for (int b = 0; b < n; b++) {
                int hours = pipe(a, b);
                way[a][b] = a == b ? 0 : hours < 0 ? 1000000 : (stay[a] + hours) * 100 + 1;
            }
        }
        for (int over = 0; over < n; over++) {
            for (int a = 0; a < n; a++) {
                for (int b = 0; b < n; b++) {
                    way[a][b] = Math.min(way[a][b], way[a][over] + way[over][b]);
                }
            }
        }
        return way;
    }

    int quickest(int from, int to) {
        floor(from);
        floor(to);
        int way = ways()[from][to];
        return way >= 1000000 ? -1 : way / 100;
    }

    int pipesBetween(int from, int to) {
        floor(from);
        floor(to);
        int way = ways()[from][to];
        return way >= 1000000 ? -1 : way % 100;
    }

    int farthestFrom(int floor) {
        floor(floor);
        int best = floor;
        for (int to = n - 1; to >= 0; to--) {
            if (quickest(floor, to) >= quickest(floor, best)) {
                best = to;
            }
        }
        return best;
    }

    int centre() {
        int best = 0;
        int least = 1000000;
        for (int from = 0; from < n; from++) {
            int greatest = 0;
            for (int to = 0; to < n; to++) {
                int hours = quickest(from, to);
                greatest = Math.max(greatest, hours < 0 ? 1000000 : hours);
            }
            if (greatest < least) {
                best = from;
                least = greatest;
            }
        }
        return best;
    }

    int parts() {
        int[] part = new int[n];
        for (int i = 0; i < n; i++) {
            part[i] = i;
        }
        for (int a = 0; a < n; a++) {
            for (int b = 0; b < n; b++) {
                if (pipe(a, b) > 0) {
                    int gone = part[b];
                    for (int i = 0; i < n; i++) {
                        part[i] = part[i] == gone ? part[a] : part[i];
                    }
                }
            }
        }
        return (int) Arrays.stream(part).distinct().count();
    }

    int gainBy(int lift, int from, int to) {
        lift(lift);
        floor(from);
        floor(to);
        PlainModel with = copy();
        with.running.set(lift, true);
        PlainModel without = copy();
        without.running.set(lift, false);
        int quick = with.quickest(from, to);
        int slow = without.quickest(from, to);
        if (quick < 0) {
            return 0;
        }
        return slow < 0 ? -1 : slow - quick;
    }

    private PlainModel later() {
        PlainModel m = copy();
        for (int i = 0; i < 100; i++) {
            m.passHour();
        }
        return m;
    }

    int wouldHear(int rumour, int floor) {
        heardAt(rumour, floor);
        return later().heardAt(rumour, floor);
    }

    int believersInTheEnd(int rumour) {
        story(rumour);
        return later().believers(rumour);
    }

    int quietIn(int rumour) {
        story(rumour);
        PlainModel m = copy();
        for (int i = 0; i <= 100; i++) {
            if (m.story(rumour).messages.isEmpty() && m.story(rumour).tellings.isEmpty()) {
                return i;
            }
            m.passHour();
        }
        return -1;
    }

    int believersWith(int rumour, int floor) {
        if (stateOf(rumour, floor) == 2) {
            return believersInTheEnd(rumour);
        }
        PlainModel m = copy();
        m.startDenial(rumour, floor);
        return m.believersInTheEnd(rumour);
    }

    int bestDenial(int rumour) {
        story(rumour);
        int best = n - 1;
        for (int f = n - 1; f >= 0; f--) {
            if (believersWith(rumour, f) <= believersWith(rumour, best)) {
                best = f;
            }
        }
        return best;
    }

    int bestStairsToShut(int rumour) {
        int fewest = believersInTheEnd(rumour);
        int best = -1;
        for (int f = 0; f < n - 1; f++) {
            if (open[f]) {
                PlainModel m = copy();
                m.open[f] = false;
                int then = m.believersInTheEnd(rumour);
                if (then < fewest) {
                    fewest = then;
                    best = f;
                }
            }
        }
        return best;
    }

    double meanHeads() {
        double sum = 0;
        for (int h : heads) {
            sum += h;
        }
        return sum / n;
    }

    long digest() {
        List<Integer> all = new ArrayList<>(List.of(floors(), hours(), lifts(), rumours(), centre(), parts()));
        for (int f = 0; f < n; f++) {
            all.addAll(List.of(headsOf(f), stayOf(f), neighbours(f), farthestFrom(f), quickest(0, f)));
        }
        for (int f = 0; f < n - 1; f++) {
            all.addAll(List.of(stairsOf(f), isOpen(f) ? 1 : 0));
        }
        for (int i = 0; i < lifts.size(); i++) {
            all.add(runs(i) ? 1 : 0);
        }
        for (int r = 0; r < stories.size(); r++) {
            all.addAll(List.of(originOf(r), reachOf(r), believers(r), reached(r), underWay(r), quietIn(r)));
            all.addAll(List.of(believersInTheEnd(r), bestDenial(r), bestStairsToShut(r)));
            for (int f = 0; f < n; f++) {
                all.addAll(List.of(stateOf(r, f), heardAt(r, f), deniedAt(r, f), pipesTo(r, f)));
            }
        }
        long d = 2287;
        for (int x : all) {
            d = d * 31 + x;
        }
        return d;
    }
}
