import java.lang.management.ManagementFactory;

/** Calls make no objects: all that a run needs is made with the object, far below the room of a run. */
public final class RoomTest {
    private static final Due due = new Due("RoomTest");

    public static void main(String[] args) {
        com.sun.management.ThreadMXBean threads = (com.sun.management.ThreadMXBean) ManagementFactory.getThreadMXBean();
        GreetedMirrors x = new GreetedMirrors();
        int[] letters = Due.ROW.chars().toArray();
        // Once ahead of it, so that what the machine itself makes at first is not counted.
        dearCalls(x, letters);
        threads.getCurrentThreadAllocatedBytes();
        long ahead = threads.getCurrentThreadAllocatedBytes();
        long between = threads.getCurrentThreadAllocatedBytes() - ahead;
        for (int k = 0; k < 500; k++) {
            dearCalls(x, letters);
        }
        long made = threads.getCurrentThreadAllocatedBytes() - ahead - 2 * between;
        // One object in each of the 500 would be 8000 bytes at least; some slack for the machine's own.
        due.is("the calls' " + made + " bytes are none of their own", made < 4000 ? 1 : 0, 1);
        ahead = threads.getCurrentThreadAllocatedBytes();
        new GreetedMirrors();
        made = threads.getCurrentThreadAllocatedBytes() - ahead - between;
        due.is("an object of " + made + " bytes is below 50000", made < 50000 ? 1 : 0, 1);
        due.end();
    }

    private static int dearCalls(GreetedMirrors x, int[] letters) {
        int sum = 0;
        for (int letter : letters) {
            sum += x.feed(letter);
        }
        sum += x.house() + x.fault() + x.greet(0, 1) + x.step(1) + x.greet(1, 9) + x.steam(1, true) + x.door(1, true);
        sum += x.night() + x.envelope(9) + x.walk(0, 1) + x.drift(40) + x.undo() + x.sees(0, 1);
        for (int i = -1; i < 7; i++) {
            sum += x.round(63, i) + x.mirror(i, i) + x.doorOf(i, 0) + x.person(i) + x.told(i);
        }
        sum += x.cannot() + x.steps(3) + x.mostSeen(0) + x.learn() + x.steamed(60, 3) + x.ask(0, 1, true) + x.changed(0);
        sum += x.askNext() + x.called(0) + x.write(0, 1) + x.judge() + x.tear() + x.seed(4) + x.keep(0) + x.goBack(0);
        x.feed('h');
        sum += x.house();
        return sum;
    }
}
