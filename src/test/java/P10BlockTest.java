/** Promise 10: block, as a read would find it or as it is on the medium. */
public final class P10BlockTest {
    private static final int[] WRONG = {
        -1, 64, 65, 1024, Integer.MAX_VALUE, Integer.MIN_VALUE, Integer.MIN_VALUE + 3
    };

    public static void main(String[] args) {
        Host host = Host.ready();
        host.fill(512, 16, 100);
        host.status("write the first", 1, Cmd.op(17).p(512).x(0), 0);
        host.status("write the last", 1, Cmd.op(17).p(520).x(63), 0);
        bothViews(host);
        wrongOnes(host);
        host.status("flush", 1, Cmd.op(16), 0);
        host.dueBlock(0, true, 100, 1);
        host.dueBlock(63, true, 108, 1);
        host.fill(512, 8, 200);
        host.status("write again", 1, Cmd.op(17).p(512).x(0), 0);
        host.dueBlock(0, true, 100, 1);
        host.dueBlock(0, false, 200, 1);
        host.drive.stop(true);
        host.dueBlock(0, false, 100, 1);
        wrongOnes(host);
        Check.end();
    }

    private static void bothViews(Host host) {
        host.dueBlock(0, true, 0, 0);
        host.dueBlock(0, false, 100, 1);
        host.dueBlock(63, true, 0, 0);
        host.dueBlock(63, false, 108, 1);
        host.dueBlock(1, false, 0, 0);
        host.dueBlock(62, false, 0, 0);
    }

    private static void wrongOnes(Host host) {
        for (boolean medium : new boolean[] {false, true}) {
            for (int block : WRONG) {
                Check.due("block(" + block + ", 0, " + medium + ")",
                    host.drive.block(block, 0, medium), 0);
            }
            for (int k : new int[] {-1, 8, 9, Integer.MAX_VALUE, Integer.MIN_VALUE}) {
                Check.due("block(0, " + k + ", " + medium + ")",
                    host.drive.block(0, k, medium), 0);
                Check.due("block(63, " + k + ", " + medium + ")",
                    host.drive.block(63, k, medium), 0);
            }
            Check.due("block(1, -8, " + medium + ")", host.drive.block(1, -8, medium), 0);
        }
    }
}
