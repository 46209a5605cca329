/** The example of README.md. */
public final class Example {
    public static void main(String[] args) {
        RumourPipes tower = new RumourPipes();
        int lift = tower.addLift(0, 5, 5, 4);
        int rumour = tower.startRumour(2, 20);
        System.out.println("the lift leads from 0 to 5 in hours: " + tower.pipe(0, 5));
        System.out.println("and spares hours: " + tower.gainBy(lift, 0, 5));
        System.out.println("floors that come to believe it in 6 hours: " + tower.passHours(6));
        System.out.println("heads that would believe it in the end: " + tower.believersInTheEnd(rumour));
        int floor = tower.bestDenial(rumour);
        System.out.println("a denial is best started on the floor: " + floor);
        System.out.println("heads that believed it there: " + tower.startDenial(rumour, floor));
        System.out.println("heads that will believe it in the end: " + tower.believersInTheEnd(rumour));
        try {
            tower.startDenial(rumour, floor);
        } catch (IllegalStateException e) {
            System.out.println("it was denied there already");
        }
    }
}
