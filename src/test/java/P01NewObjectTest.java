/** Promise 1, and the limit of calls that an object is made for. */
public final class P01NewObjectTest {
    public static void main(String[] args) {
        cachingIsOnAndItIsOff();
        allElseIsNothing();
        eachObjectHasItsOwnState();
        theLastCallsAreRight();
        Check.end();
    }

    private static void cachingIsOnAndItIsOff() {
        Check.sentence("Caching is on; the drive is OFF.");
        Host host = Host.off();
        host.dueCount(1, 1);
        host.dueRun(0, DoorbellDrive.OFF);
        Check.due("stop(false)", host.drive.stop(false), DoorbellDrive.OFF);
        Check.due("stop(true)", host.drive.stop(true), DoorbellDrive.OFF);
        Check.due("ring(0, 0)", host.drive.ring(0, 0), DoorbellDrive.OFF);
        Check.due("seen(0, 0)", host.drive.seen(0, 0), DoorbellDrive.OFF);
        host.begin();
        host.dueCount(1, 1);
        host.dueRun(0, 0);
    }

    private static void allElseIsNothing() {
        Host host = Host.off();
        host.dueInterrupts(-1, 0);
        for (int what = 0; what <= 8; what++) {
            host.dueQueue(0, what, DoorbellDrive.NONE);
        }
        host.dueCount(0, 0);
        for (int what = 2; what <= 5; what++) {
            host.dueCount(what, 0);
        }
    }

    private static void eachObjectHasItsOwnState() {
        Host one = Host.ready();
        one.drive.poke(512, 7);
        one.status("write", 1, Cmd.op(17).p(512).x(3), 0);
        Host other = Host.off();
        other.dueLong(512, 0);
        other.dueFirstLong(3, 0, 0);
        other.dueCount(2, 0);
        other.dueInterrupts(0, 0);
    }

    private static void theLastCallsAreRight() {
        Check.sentence("An object is used for at most 512 calls after it has been made");
        DoorbellDrive drive = new DoorbellDrive();
        drive.begin(0, 2, 256, 2);
        drive.poke(0, 7 | 5 << 8);
        drive.poke(4, 5 | 6 << 8);
        int tail = 0;
        int calls = 3;
        // 3 and 127 times 4 are 511
        for (int i = 0; i < 127; i++) {
            tail = 1 - tail;
            Check.due("ring", drive.ring(0, tail), 1);
            Check.due("run(200)", drive.run(200), 1);
            Check.due("seen", drive.seen(0, tail), 0);
            Check.due("call " + (calls + 4) + ": count(2)", drive.count(2), i + 1);
            calls += 4;
        }
        // the 127th answer: the entry 0 when the tail has been round 63 times
        Check.due("call 512: peek(256)", drive.peek(256), 5L | 1 << 20);
    }
}
