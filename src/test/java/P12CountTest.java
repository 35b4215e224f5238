/** Promise 12: count, since the beginning of all. */
public final class P12CountTest {
    public static void main(String[] args) {
        Host host = Host.off();
        wrongOnes(host);
        host.begin();
        host.addQueue(1);
        host.fill(512, 32, 1);
        due(host, 0, 2, 0, 0, 0);
        host.status("write 3", 1, Cmd.op(17).n(3).p(512).q(528).x(5), 0);
        due(host, 3, 3, 0, 0, 3);
        host.status("read 2", 1, Cmd.op(18).n(2).p(640).x(5), 0);
        due(host, 3, 4, 0, 2, 3);
        host.status("compare, the same", 1, Cmd.op(19).n(2).p(640).x(5), 0);
        host.status("compare, not the same", 1, Cmd.op(19).p(640).x(6), 5);
        due(host, 3, 5, 1, 2, 3);
        host.status("zero 4", 1, Cmd.op(20).n(4).x(20), 0);
        due(host, 6, 6, 1, 2, 7);
        host.status("compare and write 1", 1, Cmd.op(21).p(512).q(528).x(5), 0);
        due(host, 6, 7, 1, 2, 8);
        host.status("compare and write, not the same", 1, Cmd.op(21).p(512).q(528).x(5), 5);
        host.status("read what is no block", 1, Cmd.op(18).p(640).x(64), 3);
        host.status("write from nowhere", 1, Cmd.op(17).p(1024).x(1), 4);
        host.status("read to nowhere", 1, Cmd.op(18).p(-1).x(1), 4);
        due(host, 6, 7, 5, 2, 8);
        host.status("flush", 1, Cmd.op(16), 0);
        due(host, 0, 8, 5, 2, 8);
        host.result("caching off", Cmd.op(5).p(0), 1);
        host.dueCount(1, 0);
        host.status("zero 64", 1, Cmd.op(20).n(64).x(0), 0);
        host.result("caching on", Cmd.op(5).p(1), 0);
        due(host, 0, 11, 5, 2, 72);
        host.drive.stop(true);
        due(host, 0, 11, 5, 2, 72);
        host.begin();
        host.status("no such op", 0, Cmd.op(8), 1);
        due(host, 0, 11, 6, 2, 72);
        wrongOnes(host);
        Check.end();
    }

    private static void due(Host host, int cached, int well, int otherwise, int read, int stored) {
        host.dueCount(0, cached);
        host.dueCount(1, 1);
        host.dueCount(2, well);
        host.dueCount(3, otherwise);
        host.dueCount(4, read);
        host.dueCount(5, stored);
    }

    private static void wrongOnes(Host host) {
        for (int what : new int[] {-1, 6, 7, Integer.MAX_VALUE, Integer.MIN_VALUE}) {
            host.dueCount(what, DoorbellDrive.REFUSED);
        }
    }
}
