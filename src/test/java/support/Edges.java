import java.util.List;
import java.util.function.Consumer;
import java.util.function.Supplier;

/** What is let through, what is refused, and that a call changes nothing. */
final class Edges {
    static final Class<IndexOutOfBoundsException> NO_SUCH = IndexOutOfBoundsException.class;
    static final Class<IllegalArgumentException> BAD = IllegalArgumentException.class;
    static final Class<IllegalStateException> REFUSED = IllegalStateException.class;

    /** A call with one number in it that may be wrong. */
    interface WithNumber {
        void make(RumourPipes x, int number);
    }

    private Edges() {
    }

    /** The call throws just this exception; the object and one without that call answer alike, now and later. */
    static void refuses(String what, Supplier<RumourPipes> maker, Class<? extends RuntimeException> due,
            Consumer<RumourPipes> call) {
        String got = thrownBy(maker.get(), call);
        Check.is(what + " throws " + got + ", due is " + due.getName(), got.equals(due.getName()));
        changesNothing(what, maker, call);
    }

    /** The object behind that call, which may throw, and one without it answer alike, now and later. */
    static void changesNothing(String what, Supplier<RumourPipes> maker, Consumer<RumourPipes> call) {
        Supplier<RumourPipes> behindCall = () -> {
            RumourPipes x = maker.get();
            thrownBy(x, call);
            return x;
        };
        alike(what + ", now: ", Answers.of(maker), Answers.of(behindCall));
        for (int hours : new int[] {1, 7}) {
            List<String> due = Answers.of(() -> hoursLater(maker, hours));
            alike(what + ", " + hours + " later: ", due, Answers.of(() -> hoursLater(behindCall, hours)));
        }
    }

    private static RumourPipes hoursLater(Supplier<RumourPipes> maker, int hours) {
        RumourPipes x = maker.get();
        x.passHours(hours);
        return x;
    }

    private static void alike(String what, List<String> due, List<String> got) {
        Check.same(what + "how many answers", due.size(), got.size());
        for (int i = 0; i < Math.min(due.size(), got.size()); i++) {
            Check.is(what + got.get(i) + ", due: " + due.get(i), got.get(i).equals(due.get(i)));
        }
    }

    private static String thrownBy(RumourPipes x, Consumer<RumourPipes> call) {
        try {
            call.accept(x);
        } catch (RuntimeException e) {
            return e.getClass().getName();
        }
        return "nothing";
    }

    static void takes(String what, Supplier<RumourPipes> maker, Consumer<RumourPipes> call) {
        String got = thrownBy(maker.get(), call);
        Check.is(what + " throws " + got + ", due is nothing", got.equals("nothing"));
    }

    /** Each number from least to greatest is let through, and none besides. */
    static void takesNumbers(String what, Supplier<RumourPipes> maker, int least, int greatest,
            Class<? extends RuntimeException> due, WithNumber call) {
        for (int number = least; number <= greatest; number++) {
            int right = number;
            takes(what + " " + right, maker, x -> call.make(x, right));
        }
        int[] wrong = {least - 1, greatest + 1, greatest + 13, -1 - greatest, Integer.MIN_VALUE, Integer.MAX_VALUE};
        for (int number : wrong) {
            refuses(what + " " + number, maker, due, x -> call.make(x, number));
        }
    }

    /** Each floor of the smallest tower, of the first one and of the greatest one is let through, and none besides. */
    static void takesFloors(String what, WithNumber call) {
        for (int floors : new int[] {2, 6, 12}) {
            takesNumbers(what + " of " + floors, () -> rumourInTower(floors), 0, floors - 1, NO_SUCH, call);
        }
    }

    /** The same for stairs, which lead up from each floor but the highest one. */
    static void takesStairs(String what, WithNumber call) {
        for (int floors : new int[] {2, 6, 12}) {
            takesNumbers(what + " of " + floors, () -> rumourInTower(floors), 0, floors - 2, NO_SUCH, call);
        }
    }

    private static RumourPipes rumourInTower(int floors) {
        RumourPipes x = new RumourPipes();
        x.build(floors);
        x.addLift(0, floors - 1, 1, 9);
        x.startRumour(0, 20);
        return x;
    }

    /** Without a lift none is let through; of one, and of four, each one is. */
    static void takesLifts(String what, WithNumber call) {
        for (int lifts : new int[] {0, 1, 4}) {
            takesNumbers(what + " of " + lifts, () -> withLifts(lifts), 0, lifts - 1, NO_SUCH, call);
        }
    }

    private static RumourPipes withLifts(int lifts) {
        RumourPipes x = new RumourPipes();
        x.build(3);
        for (int i = 0; i < lifts; i++) {
            x.addLift(0, 2, 2, 1 + i);
        }
        return x;
    }

    /** Without a rumour none is let through; of one, and of eight, each one is. */
    static void takesRumours(String what, WithNumber call) {
        for (int rumours : new int[] {0, 1, 8}) {
            takesNumbers(what + " of " + rumours, () -> withRumours(rumours), 0, rumours - 1, NO_SUCH, call);
        }
    }

    private static RumourPipes withRumours(int rumours) {
        RumourPipes x = new RumourPipes();
        x.build(3);
        for (int i = 0; i < rumours; i++) {
            x.startRumour(i % 2, 20 - i);
        }
        return x;
    }

    /** Three floors that are all different, two lifts, and rumours and denials under way: what could be changed. */
    static RumourPipes busyTower() {
        RumourPipes x = new RumourPipes();
        x.build(3);
        x.setHeads(0, 1);
        x.setHeads(1, 20);
        x.setHeads(2, 30);
        x.setStay(1, 5);
        x.setStairs(1, 7);
        x.addLift(0, 2, 2, 9);
        x.addLift(0, 2, 1, 1);
        x.turnLift(1);
        x.startRumour(0, 20);
        x.passHours(3);
        x.startDenial(0, 0);
        x.startRumour(2, 1);
        return x;
    }

    /** The busy tower with as many lifts and rumours as there can be. */
    static RumourPipes fullTower() {
        RumourPipes x = busyTower();
        while (x.lifts() < 4) {
            x.addLift(0, 1, 1, 9);
        }
        while (x.rumours() < 8) {
            x.startRumour(1, 2);
        }
        return x;
    }

    /** The greatest tower with as many lifts and rumours as there can be, all of them different. */
    static RumourPipes greatestTower() {
        RumourPipes x = new RumourPipes();
        x.build(12);
        for (int f = 0; f < 12; f++) {
            x.setHeads(f, 99 - f);
            x.setStay(f, (f + 3) % 10);
        }
        for (int f = 0; f < 11; f++) {
            x.setStairs(f, 1 + f % 9);
        }
        x.turnStairs(10);
        for (int i = 0; i < 4; i++) {
            x.addLift(i, 11, 2 + i, 9 - i);
        }
        x.turnLift(2);
        for (int i = 0; i < 8; i++) {
            x.startRumour(11 - i, 20 - 2 * i);
            x.passHours(3);
        }
        x.startDenial(1, 0);
        x.startDenial(3, 5);
        x.startDenial(7, 10);
        return x;
    }
}
