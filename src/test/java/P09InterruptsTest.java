/** Promise 9: interrupts, one bit of each completion queue. */
public final class P09InterruptsTest {
    public static void main(String[] args) {
        bitsOfInterrupts();
        everyMask();
        bitsThatThereAreNot();
        Check.end();
    }

    /** All four bits are set. */
    private static Host withAllBits() {
        Host host = Host.withAllQueues();
        for (int q = 1; q <= 3; q++) {
            host.place(q, Cmd.op(16));
        }
        host.dueRun(9, 3);
        return host;
    }

    private static void bitsOfInterrupts() {
        Check.sentence("The bits of INTERRUPTS; those of mask are 0 then.");
        Host host = Host.begun();
        host.dueInterrupts(0, 0);
        host.dueInterrupts(-1, 0);
        host.status("how many are cached", 0, Cmd.op(7), 0);
        host.dueInterrupts(0, 1);
        host.dueInterrupts(14, 1);
        host.dueInterrupts(1, 1);
        host.dueInterrupts(0, 0);
        host.status("set again", 0, Cmd.op(7), 0);
        host.status("and again", 0, Cmd.op(7), 0);
        host.dueInterrupts(1, 1);
        host.dueInterrupts(1, 0);
    }

    private static void everyMask() {
        for (int mask = 0; mask <= 15; mask++) {
            Host host = withAllBits();
            host.dueInterrupts(mask, 15);
            host.dueInterrupts(0, 15 & ~mask);
            host.dueInterrupts(15, 15 & ~mask);
            host.dueInterrupts(0, 0);
        }
    }

    private static void bitsThatThereAreNot() {
        Host host = withAllBits();
        for (int mask : new int[] {16, 32, 240, 1 << 30, Integer.MIN_VALUE, ~15}) {
            host.dueInterrupts(mask, 15);
        }
        host.dueInterrupts(Integer.MAX_VALUE - 8, 15);
        host.dueInterrupts(Integer.MIN_VALUE | 8, 8);
        host.dueInterrupts(-1, 0);
    }
}
