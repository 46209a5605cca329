/** "An object is used for at most 512 calls after it has been made": all of them are answered. */
public final class LongUseTests {
    private static final int CALLS = 512;

    public static void main(String[] args) {
        theLastCallIsAnswered();
        hoursOfAllCalls();
        refusedCallsAreCalls();
        theDearestCallEachTime();
        towersOfAllCalls();
        Check.end();
    }

    private static void theLastCallIsAnswered() {
        RumourPipes x = new RumourPipes();
        for (int call = 1; call < CALLS; call++) {
            Check.same("call " + call, 10 * (call % 2), x.setHeads(0, 10 * ((call + 1) % 2)));
        }
        Check.same("the call 512", 0, x.headsOf(0));
    }

    private static void hoursOfAllCalls() {
        RumourPipes x = new RumourPipes();
        int late = 60 * 499;
        for (int call = 1; call <= 499; call++) {
            x.passHours(60);
        }
        Check.same("hours", late, x.hours());
        x.startRumour(0, 20);
        Check.same("quietIn", 31, x.quietIn(0));
        Check.same("wouldHear", late + 25, x.wouldHear(0, 5));
        Check.same("believersInTheEnd", 60, x.believersInTheEnd(0));
        Check.same("passHours", 2, x.passHours(11));
        x.startDenial(0, 4);
        Check.same("heardAt", late + 10, x.heardAt(0, 2));
        Check.same("passHours, denied", 1, x.passHours(60));
        Check.same("deniedAt", late + 15, x.deniedAt(0, 3));
        Check.same("heardAt in that hour", late + 15, x.heardAt(0, 3));
        Check.same("believers", 0, x.believers(0));
        Check.same("the call 512", late + 71, x.hours());
    }

    private static void refusedCallsAreCalls() {
        RumourPipes x = new RumourPipes();
        for (int call = 1; call < CALLS; call++) {
            boolean refused = false;
            try {
                x.build(13);
            } catch (IllegalArgumentException e) {
                refused = true;
            }
            Check.is("refused, call " + call, refused);
        }
        Check.same("the call 512", 11, x.build(12));
    }

    private static void theDearestCallEachTime() {
        int callsBefore = 61;
        RumourPipes x = Edges.greatestTower();
        long due = x.digest();
        for (int call = callsBefore + 2; call <= CALLS; call++) {
            Check.same("digest, call " + call, due, x.digest());
        }
    }

    private static void towersOfAllCalls() {
        RumourPipes x = new RumourPipes();
        for (int call = 1; call <= 500; call += 5) {
            x.build(2 + call % 11);
            x.addLift(0, 1, 1, 9);
            x.startRumour(0, 20);
            x.startDenial(0, 0);
            x.passHours(1);
        }
        x.build(2);
        Check.same("no lifts are left", 0, x.addLift(0, 1, 1, 1));
        Check.same("no rumours are left", 0, x.startRumour(0, 20));
        x.passHours(60);
        Check.same("believers", 20, x.believers(0));
        Check.same("the hour in which it came", 100 + 2 + 1, x.heardAt(0, 1));
    }
}
