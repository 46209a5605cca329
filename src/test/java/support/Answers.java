import java.util.ArrayList;
import java.util.List;
import java.util.function.Supplier;

/**
 * Every question that an object can be asked, with every argument that is there, a line each. The object is made
 * anew for each floor, lift and rumour, since one object is used for 512 calls at most.
 */
final class Answers {
    private final List<String> lines = new ArrayList<>();
    private final Supplier<RumourPipes> maker;
    private final int floors;

    private Answers(Supplier<RumourPipes> maker) {
        this.maker = maker;
        this.floors = maker.get().floors();
    }

    static List<String> of(Supplier<RumourPipes> maker) {
        Answers a = new Answers(maker);
        RumourPipes x = maker.get();
        a.addOfTower(x);
        for (int floor = 0; floor < a.floors; floor++) {
            a.addOfFloor(maker.get(), floor);
        }
        for (int lift = 0; lift < x.lifts(); lift++) {
            a.addOfLift(maker.get(), lift);
        }
        for (int rumour = 0; rumour < x.rumours(); rumour++) {
            a.addOfRumour(maker.get(), rumour);
        }
        return a.lines;
    }

    private void add(String question, Object answer) {
        lines.add(question + " is " + answer);
    }

    private void addOfTower(RumourPipes x) {
        add("floors", x.floors());
        add("hours", x.hours());
        add("lifts", x.lifts());
        add("rumours", x.rumours());
        add("centre", x.centre());
        add("parts", x.parts());
        add("meanHeads", x.meanHeads());
        add("digest", x.digest());
    }

    private void addOfFloor(RumourPipes x, int floor) {
        add("headsOf " + floor, x.headsOf(floor));
        add("stayOf " + floor, x.stayOf(floor));
        add("neighbours " + floor, x.neighbours(floor));
        add("farthestFrom " + floor, x.farthestFrom(floor));
        if (floor < floors - 1) {
            add("stairsOf " + floor, x.stairsOf(floor));
            add("isOpen " + floor, x.isOpen(floor));
        }
        for (int to = 0; to < floors; to++) {
            add("pipe " + floor + " " + to, x.pipe(floor, to));
            add("quickest " + floor + " " + to, x.quickest(floor, to));
            add("pipesBetween " + floor + " " + to, x.pipesBetween(floor, to));
        }
    }

    private void addOfLift(RumourPipes x, int lift) {
        add("runs " + lift, x.runs(lift));
        for (int from = 0; from < floors; from++) {
            add("serves " + lift + " " + from, x.serves(lift, from));
            for (int to = 0; to < floors; to++) {
                add("gainBy " + lift + " " + from + " " + to, x.gainBy(lift, from, to));
            }
        }
    }

    private void addOfRumour(RumourPipes x, int rumour) {
        add("originOf " + rumour, x.originOf(rumour));
        add("reachOf " + rumour, x.reachOf(rumour));
        add("believers " + rumour, x.believers(rumour));
        add("reached " + rumour, x.reached(rumour));
        add("underWay " + rumour, x.underWay(rumour));
        add("believersInTheEnd " + rumour, x.believersInTheEnd(rumour));
        add("quietIn " + rumour, x.quietIn(rumour));
        add("bestDenial " + rumour, x.bestDenial(rumour));
        add("bestStairsToShut " + rumour, x.bestStairsToShut(rumour));
        for (int floor = 0; floor < floors; floor++) {
            add("stateOf " + rumour + " " + floor, x.stateOf(rumour, floor));
            add("heardAt " + rumour + " " + floor, x.heardAt(rumour, floor));
            add("deniedAt " + rumour + " " + floor, x.deniedAt(rumour, floor));
            add("pipesTo " + rumour + " " + floor, x.pipesTo(rumour, floor));
            add("wouldHear " + rumour + " " + floor, x.wouldHear(rumour, floor));
            add("believersWith " + rumour + " " + floor, x.believersWith(rumour, floor));
        }
    }
}
