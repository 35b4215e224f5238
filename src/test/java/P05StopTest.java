/** Promise 5: stop, with and without a loss of power. */
public final class P05StopTest {
    private static final boolean[] BOTH = {false, true};

    public static void main(String[] args) {
        offWithoutQueues();
        cacheIsFlushed();
        cacheIsLost();
        howManyThereWere();
        whatStays();
        cachingOffStays();
        noChangeOfInterruptsIsDescribed();
        offIfItIs();
        Check.end();
    }

    /** Blocks 10, 11 .. in the cache, with 1000, 1001 .. in them. */
    private static Host withCached(int blocks) {
        Host host = Host.ready();
        host.fill(512, 8 * blocks, 1000);
        for (int i = 0; i < blocks; i++) {
            host.status("write", 1, Cmd.op(17).p(512 + 8 * i).x(10 + i), 0);
        }
        host.dueCount(0, Math.min(blocks, 6));
        return host;
    }

    private static void offWithoutQueues() {
        Check.sentence("The drive is OFF, without queues");
        for (boolean power : BOTH) {
            Host host = Host.withAllQueues();
            host.place(1, Cmd.op(16));
            Check.due("stop(" + power + ")", host.drive.stop(power), 0);
            for (int q = 0; q < 4; q++) {
                for (int what = 0; what <= 8; what++) {
                    host.dueQueue(q, what, DoorbellDrive.NONE);
                }
                Check.due("ring(" + q + ", 0)", host.drive.ring(q, 0), DoorbellDrive.OFF);
                Check.due("seen(" + q + ", 0)", host.drive.seen(q, 0), DoorbellDrive.OFF);
            }
            host.dueRun(9, DoorbellDrive.OFF);
            host.begin();
            host.dueRun(9, 0);
            Check.due("ring(1, 0)", host.drive.ring(1, 0), DoorbellDrive.REFUSED);
        }
    }

    private static void cacheIsFlushed() {
        Check.sentence("the cache is FLUSHED before");
        for (int cached : new int[] {0, 1, 6}) {
            Host host = withCached(cached);
            Check.due("stop(false)", host.drive.stop(false), cached);
            host.dueCount(0, 0);
            for (int i = 0; i < cached; i++) {
                host.dueBlock(10 + i, true, 1000 + 8 * i, 1);
                host.dueBlock(10 + i, false, 1000 + 8 * i, 1);
            }
        }
    }

    private static void cacheIsLost() {
        Check.sentence("or, if power is lost (power is true), its blocks are gone");
        for (int cached : new int[] {0, 1, 6}) {
            Host host = withCached(cached);
            Check.due("stop(true)", host.drive.stop(true), cached);
            host.dueCount(0, 0);
            for (int i = 0; i < cached; i++) {
                host.dueBlock(10 + i, true, 0, 0);
                host.dueBlock(10 + i, false, 0, 0);
            }
        }
        whatIsOnTheMediumIsNotLost();
    }

    private static void whatIsOnTheMediumIsNotLost() {
        Host host = withCached(7);
        host.dueFirstLong(10, 1000, 1000);
        host.status("zero", 1, Cmd.op(20).x(10), 0);
        // the eighth that came: 11 is on the medium, too
        Check.due("stop(true)", host.drive.stop(true), 6);
        host.dueFirstLong(10, 1000, 1000);
        host.dueFirstLong(11, 1008, 1008);
        host.dueFirstLong(12, 0, 0);
        host.begin();
        host.addQueue(1);
        host.status("store again", 1, Cmd.op(17).p(512).x(12), 0);
        host.dueCount(0, 1);
        host.dueFirstLong(12, 0, 1000);
    }

    private static void howManyThereWere() {
        Check.sentence("how many there were.");
        for (boolean power : BOTH) {
            for (int stored = 0; stored <= 8; stored++) {
                Host host = withCached(stored);
                Check.due("stop(" + power + ")", host.drive.stop(power), Math.min(stored, 6));
                host.begin();
                Check.due("stop(" + power + ")", host.drive.stop(power), 0);
            }
        }
    }

    private static void whatStays() {
        Check.sentence("MEMORY, whether caching is on, and what is counted stay.");
        for (boolean power : BOTH) {
            Host host = withCached(2);
            host.drive.poke(0, 5);
            host.drive.poke(1023, 6);
            host.status("read", 1, Cmd.op(18).p(600).x(11), 0);
            host.status("no such op", 1, Cmd.op(99), 1);
            Check.due("stop(" + power + ")", host.drive.stop(power), 2);
            dueStayed(host);
            host.begin();
            dueStayed(host);
            Check.due("stop(" + power + ")", host.drive.stop(power), 0);
            dueStayed(host);
        }
    }

    private static void dueStayed(Host host) {
        host.dueLong(0, 5);
        host.dueLong(1023, 6);
        host.dueMemory(512, 16, 1000);
        host.dueMemory(600, 8, 1008);
        int[] counted = {0, 1, 5, 1, 1, 2};
        for (int what = 0; what <= 5; what++) {
            host.dueCount(what, counted[what]);
        }
    }

    private static void cachingOffStays() {
        for (boolean power : BOTH) {
            Host host = withCached(1);
            host.result("caching off", Cmd.op(5).p(0), 1);
            Check.due("stop(" + power + ")", host.drive.stop(power), 0);
            host.dueCount(1, 0);
            host.dueBlock(10, true, 1000, 1);
            host.begin();
            host.dueCount(1, 0);
            host.result("caching off", Cmd.op(5).p(0), 0);
        }
    }

    /** The document tells of interrupts at begin() alone, so they stay until then. */
    private static void noChangeOfInterruptsIsDescribed() {
        for (boolean power : BOTH) {
            Host host = withCached(1);
            Check.due("stop(" + power + ")", host.drive.stop(power), 1);
            host.dueInterrupts(1, 3);
            host.dueInterrupts(0, 2);
            host.begin();
            host.dueInterrupts(0, 0);
        }
    }

    private static void offIfItIs() {
        Check.sentence("OFF if it is.");
        Host host = Host.off();
        for (int i = 0; i < 3; i++) {
            Check.due("stop(false)", host.drive.stop(false), DoorbellDrive.OFF);
            Check.due("stop(true)", host.drive.stop(true), DoorbellDrive.OFF);
            host.begin();
            Check.due("stop while it is on", host.drive.stop(i % 2 == 0), 0);
        }
        Check.due("stop(true)", host.drive.stop(true), DoorbellDrive.OFF);
    }
}
