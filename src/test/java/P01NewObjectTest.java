/** Promise 1: caching is on; the drive is OFF; all else is 0. */
public final class P01NewObjectTest {
    public static void main(String[] args) {
        Host host = Host.off();
        host.dueCount(1, 1);
        Check.due("run(0)", host.drive.run(0), DoorbellDrive.OFF);
        Check.due("stop(false)", host.drive.stop(false), DoorbellDrive.OFF);
        Check.due("stop(true)", host.drive.stop(true), DoorbellDrive.OFF);
        Check.due("ring(0, 0)", host.drive.ring(0, 0), DoorbellDrive.OFF);
        Check.due("seen(0, 0)", host.drive.seen(0, 0), DoorbellDrive.OFF);
        Check.due("interrupts(-1)", host.drive.interrupts(-1), 0);
        for (int what = 0; what <= 8; what++) {
            host.dueQueue(0, what, DoorbellDrive.NONE);
        }
        host.dueCount(0, 0);
        for (int what = 2; what <= 5; what++) {
            host.dueCount(what, 0);
        }
        allIsZero();
        eachObjectHasItsOwnState();
        Check.end();
    }

    private static void allIsZero() {
        DoorbellDrive memory = new DoorbellDrive();
        for (int address = 0; address < 1024; address += 3) {
            Check.due("peek(" + address + ")", memory.peek(address), 0);
        }
        for (int block = 0; block < 64; block++) {
            Check.due("block " + block, memory.block(block, block % 8, true), 0);
            Check.due("block " + block, memory.block(block, 7 - block % 8, false), 0);
        }
    }

    private static void eachObjectHasItsOwnState() {
        Host one = Host.ready();
        one.drive.poke(512, 7);
        one.status("write", 1, Cmd.op(17).p(512).x(3), 0);
        Host other = Host.off();
        Check.due("peek(512)", other.drive.peek(512), 0);
        Check.due("block(3, 0, false)", other.drive.block(3, 0, false), 0);
        other.dueCount(2, 0);
    }
}
