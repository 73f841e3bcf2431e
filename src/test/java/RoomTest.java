import java.lang.management.ManagementFactory;

/** What a run makes stays far below the room of a run: all rows are made with the object. */
public final class RoomTest {
    private static final long OBJECT_BYTES = 400_000;
    private static final long EXCEPTION_BYTES = 4_000;

    public static void main(String[] args) {
        com.sun.management.ThreadMXBean thread = (com.sun.management.ThreadMXBean) ManagementFactory.getThreadMXBean();
        long id = Thread.currentThread().getId();
        use(Make.fresh(), 50);
        long start = thread.getThreadAllocatedBytes(id);
        TurnipPages x = new TurnipPages();
        long made = thread.getThreadAllocatedBytes(id) - start;
        Check.equal("an object takes " + made, made < OBJECT_BYTES, true);
        use(x, 1);
        start = thread.getThreadAllocatedBytes(id);
        use(x, 4);
        long used = thread.getThreadAllocatedBytes(id) - start;
        Check.equal("calls that throw nothing take " + used, used < 1000, true);
        start = thread.getThreadAllocatedBytes(id);
        refuse(x);
        used = thread.getThreadAllocatedBytes(id) - start;
        Check.equal("calls that throw take " + used, used < 100 * EXCEPTION_BYTES, true);
        Check.end("RoomTest");
    }

    private static void use(TurnipPages x, int times) {
        for (int i = 0; i < times; i++) {
            if (x.rootCount() == 0) {
                x.addRoot(3);
                x.addRoot(1);
            }
            for (char character = 'a'; character < 'o'; character++) {
                x.type(character);
            }
            x.encode();
            x.decode();
            int number = x.carve(0, 5);
            x.read(number);
            x.writeTelegram(number);
            x.isReadable(number);
            x.telegramByPriority(0);
            x.telegramByRot(0);
            x.damage(number, 0, 'q');
            x.undo();
            x.recarve(number);
            x.move(number, 1);
            x.age(1);
            x.saveSnapshot();
            String commands = "age 2;age 1";
            for (int k = 0; k < commands.length(); k++) {
                x.feed(commands.charAt(k));
            }
            x.execute();
            x.drop(number);
            x.restoreSnapshot();
            x.drop(number);
        }
    }

    private static void refuse(TurnipPages x) {
        for (int i = 0; i < 100; i++) {
            try {
                x.dry(9);
            } catch (IndexOutOfBoundsException e) {
                continue;
            }
        }
    }
}
