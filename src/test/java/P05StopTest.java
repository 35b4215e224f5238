/** Promise 5: stop, with and without a loss of power. */
public final class P05StopTest {
    public static void main(String[] args) {
        offIfItIs();
        cacheGoesToTheMedium();
        cacheIsLost();
        whatStays();
        cachingOffStays();
        queuesGo();
        Check.end();
    }

    private static Host withCached(int blocks) {
        Host host = Host.ready();
        host.fill(512, 8 * blocks, 1000);
        for (int i = 0; i < blocks; i++) {
            host.status("write", 1, Cmd.op(17).p(512 + 8 * i).x(10 + i), 0);
        }
        host.dueCount(0, blocks);
        return host;
    }

    private static void offIfItIs() {
        Host host = Host.begun();
        Check.due("stop(false)", host.drive.stop(false), 0);
        Check.due("stop(false)", host.drive.stop(false), DoorbellDrive.OFF);
        Check.due("stop(true)", host.drive.stop(true), DoorbellDrive.OFF);
        host.begin();
        Check.due("stop(true)", host.drive.stop(true), 0);
        Check.due("stop(true)", host.drive.stop(true), DoorbellDrive.OFF);
    }

    private static void cacheGoesToTheMedium() {
        Host host = withCached(3);
        Check.due("stop(false)", host.drive.stop(false), 3);
        host.dueCount(0, 0);
        for (int i = 0; i < 3; i++) {
            host.dueBlock(10 + i, true, 1000 + 8 * i, 1);
            host.dueBlock(10 + i, false, 1000 + 8 * i, 1);
        }
    }

    private static void cacheIsLost() {
        Host host = withCached(6);
        host.status("flush", 1, Cmd.op(16), 0);
        host.status("zero", 1, Cmd.op(20).n(2).x(10), 0);
        Check.due("stop(true)", host.drive.stop(true), 2);
        host.dueCount(0, 0);
        host.dueBlock(10, true, 1000, 1);
        host.dueBlock(11, false, 1008, 1);
    }

    private static void whatStays() {
        for (boolean power : new boolean[] {false, true}) {
            Host host = withCached(2);
            host.status("read", 1, Cmd.op(18).p(600).x(11), 0);
            host.status("no such op", 1, Cmd.op(99), 1);
            Check.due("stop(" + power + ")", host.drive.stop(power), 2);
            host.dueMemory(512, 16, 1000);
            host.dueMemory(600, 8, 1008);
            host.dueCount(1, 1);
            host.dueCount(2, 5);
            host.dueCount(3, 1);
            host.dueCount(4, 1);
            host.dueCount(5, 2);
            Check.due("interrupts(0): stop() says nothing of them", host.drive.interrupts(0), 3);
        }
    }

    private static void cachingOffStays() {
        for (boolean power : new boolean[] {false, true}) {
            Host host = withCached(1);
            host.result("caching off", Cmd.op(5).p(0), 1);
            Check.due("stop(" + power + ")", host.drive.stop(power), 0);
            host.dueCount(1, 0);
            host.dueBlock(10, true, 1000, 1);
            host.begin();
            host.dueCount(1, 0);
            host.result("caching off", Cmd.op(5).p(0), 0);
        }
    }

    private static void queuesGo() {
        Host host = Host.ready();
        host.place(1, Cmd.op(16));
        host.drive.stop(false);
        for (int q = 0; q < 4; q++) {
            for (int what = 0; what <= 8; what++) {
                host.dueQueue(q, what, DoorbellDrive.NONE);
            }
        }
        host.begin();
        Check.due("run(9)", host.drive.run(9), 0);
    }
}
