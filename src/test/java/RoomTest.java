import java.lang.management.ManagementFactory;

/** Calls make nothing: all room is made with the object, and used again. */
public final class RoomTest {
    private static final int CALLS = 512;
    private static final long OBJECT_BYTES = 8192;
    private static final long ODD_BYTES = 4096;
    private static final Check CHECK = new Check();

    public static void main(String[] args) {
        com.sun.management.ThreadMXBean room =
            (com.sun.management.ThreadMXBean) ManagementFactory.getThreadMXBean();
        if (!room.isThreadAllocatedMemorySupported()) {
            System.out.println("this machine does not tell what is made");
            return;
        }
        new DrownedNames().digest();
        room.getCurrentThreadAllocatedBytes();
        long ahead = room.getCurrentThreadAllocatedBytes();
        DrownedNames x = new DrownedNames();
        long made = room.getCurrentThreadAllocatedBytes() - ahead;
        CHECK.holds("an object of " + made + " bytes", made <= OBJECT_BYTES);

        Check.typed(x, 0, "999;999;999;999;999;999");
        Check.typed(x, 1, "99l.;99la;99lb;99lc;99ld;99le;99lf;99lg");
        Check.typed(x, 2, "0h99;1g99;2f99;3e99;4d99;5c99;0a99;1b99;2c99;3d99;4e99;5f99");
        ahead = room.getCurrentThreadAllocatedBytes();
        for (int call = 0; call < CALLS; call++) {
            x.seen(call % 6, 0);
            x.loss(call % 30, call % 6);
            x.sheet(call % 4, call % 3, 60);
            x.copy(0, 0, 0, 1, 59);
            x.read(call % 4);
            x.write(9, call % 4);
            x.strike(0, call % 8);
            if (call % 16 == 0) {
                x.digest();
                x.wipe(2);
                x.type(2, '0');
            }
        }
        made = room.getCurrentThreadAllocatedBytes() - ahead;
        CHECK.holds("calls make " + made + " bytes", made <= ODD_BYTES);
        CHECK.end();
    }
}
