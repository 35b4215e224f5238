/** Promise 10: block, as a read would find it or as it is on the medium. */
public final class P10BlockTest {
    private static final boolean[] BOTH = {false, true};

    public static void main(String[] args) {
        longsOfABlock();
        bothViews();
        noSuchBlock();
        noSuchLong();
        Check.end();
    }

    private static void longsOfABlock() {
        Check.sentence("Long k (0 to 7) of a block");
        Host host = Host.ready();
        host.fill(512, 16, 100);
        host.status("write the first two", 1, Cmd.op(17).flag().n(2).p(512).x(0), 0);
        host.fill(512, 16, 200);
        host.status("write the last two", 1, Cmd.op(17).flag().n(2).p(512).x(62), 0);
        for (boolean medium : BOTH) {
            host.dueBlock(0, medium, 100, 1);
            host.dueBlock(1, medium, 108, 1);
            host.dueBlock(2, medium, 0, 0);
            host.dueBlock(61, medium, 0, 0);
            host.dueBlock(62, medium, 200, 1);
            host.dueBlock(63, medium, 208, 1);
        }
        host.drive.stop(false);
        host.dueBlock(63, true, 208, 1);
        host.dueBlock(63, false, 208, 1);
    }

    private static void bothViews() {
        Check.sentence("as a read would find it, or, if medium, as it is there");
        Host host = Host.ready();
        host.fill(512, 16, 100);
        host.status("write the first", 1, Cmd.op(17).p(512).x(0), 0);
        host.status("write the last", 1, Cmd.op(17).p(520).x(63), 0);
        host.dueBlock(0, true, 0, 0);
        host.dueBlock(0, false, 100, 1);
        host.dueBlock(63, true, 0, 0);
        host.dueBlock(63, false, 108, 1);
        host.dueBlock(1, false, 0, 0);
        host.dueBlock(62, false, 0, 0);
        host.status("flush", 1, Cmd.op(16), 0);
        host.dueBlock(0, true, 100, 1);
        host.dueBlock(63, true, 108, 1);
        host.fill(512, 8, 200);
        host.status("write again", 1, Cmd.op(17).p(512).x(0), 0);
        host.dueBlock(0, true, 100, 1);
        host.dueBlock(0, false, 200, 1);
        host.drive.stop(true);
        host.dueBlock(0, true, 100, 1);
        host.dueBlock(0, false, 100, 1);
    }

    /** Blocks 0, 1, 62, 63 without a long that is 0, in the cache or on the medium. */
    private static Host filled(boolean flushed) {
        Host host = Host.ready();
        host.fill(512, 16, 100);
        host.status("write the first two", 1, Cmd.op(17).n(2).p(512).x(0), 0);
        host.status("write the last two", 1, Cmd.op(17).n(2).p(512).x(62), 0);
        if (flushed) {
            host.status("flush", 1, Cmd.op(16), 0);
        }
        return host;
    }

    private static void dueZero(Host host, int block, int k) {
        for (boolean medium : BOTH) {
            Check.due("block(" + block + ", " + k + ", " + medium + ")",
                host.drive.block(block, k, medium), 0);
        }
    }

    private static void noSuchBlock() {
        Check.sentence("0 for others.");
        for (boolean flushed : BOTH) {
            Host host = filled(flushed);
            for (int block : new int[] {-1, -2, 64, 65, 128, 1 << 29, Integer.MAX_VALUE,
                Integer.MIN_VALUE, Integer.MIN_VALUE + 1}) {
                for (int k : new int[] {0, 7, 8, -1}) {
                    dueZero(host, block, k);
                }
            }
        }
    }

    private static void noSuchLong() {
        for (boolean flushed : BOTH) {
            Host host = filled(flushed);
            for (int block : new int[] {0, 1, 62, 63}) {
                for (int k : new int[] {-1, -8, 8, 9, 16, Integer.MAX_VALUE, Integer.MIN_VALUE,
                    -8 * block, 512 - 8 * block}) {
                    if (k < 0 || k > 7) {
                        dueZero(host, block, k);
                    }
                }
            }
        }
    }
}
