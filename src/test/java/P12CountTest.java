/** Promise 12: count, since the beginning of all. */
public final class P12CountTest {
    public static void main(String[] args) {
        everyCount();
        sinceTheBeginningOfAll();
        refusedForOthers();
        Check.end();
    }

    private static void due(Host host, int... want) {
        for (int what = 0; what <= 5; what++) {
            host.dueCount(what, want[what]);
        }
    }

    private static void everyCount() {
        Check.sentence("What 0: blocks in the cache, 1: 1 if caching is on, "
            + "2: commands done with status 0, 3: with others, 4: blocks read, 5: stored");
        Host host = Host.off();
        due(host, 0, 1, 0, 0, 0, 0);
        host.begin();
        due(host, 0, 1, 0, 0, 0, 0);
        host.addQueue(1);
        due(host, 0, 1, 2, 0, 0, 0);
        host.fill(512, 32, 1);
        host.status("write 3", 1, Cmd.op(17).n(3).p(512).q(528).x(5), 0);
        due(host, 3, 1, 3, 0, 0, 3);
        host.status("read 2", 1, Cmd.op(18).n(2).p(640).x(5), 0);
        due(host, 3, 1, 4, 0, 2, 3);
        host.status("compare, the same", 1, Cmd.op(19).n(2).p(640).x(5), 0);
        host.status("compare, not the same", 1, Cmd.op(19).p(640).x(6), 5);
        due(host, 3, 1, 5, 1, 2, 3);
        host.status("zero 4", 1, Cmd.op(20).n(4).x(20), 0);
        due(host, 6, 1, 6, 1, 2, 7);
        host.status("compare and write 1", 1, Cmd.op(21).p(512).q(528).x(5), 0);
        due(host, 6, 1, 7, 1, 2, 8);
        host.status("compare and write, not the same", 1, Cmd.op(21).p(512).q(528).x(5), 5);
        host.status("read what is no block", 1, Cmd.op(18).p(640).x(64), 3);
        host.status("write from nowhere", 1, Cmd.op(17).p(1024).x(1), 4);
        host.status("read to nowhere", 1, Cmd.op(18).p(-1).x(1), 4);
        due(host, 6, 1, 7, 5, 2, 8);
        host.status("flush", 1, Cmd.op(16), 0);
        due(host, 0, 1, 8, 5, 2, 8);
        host.result("caching off", Cmd.op(5).p(0), 1);
        due(host, 0, 0, 9, 5, 2, 8);
        host.status("zero 64", 1, Cmd.op(20).n(64).x(0), 0);
        due(host, 0, 0, 10, 5, 2, 72);
        host.result("caching on", Cmd.op(5).p(1), 0);
        due(host, 0, 1, 11, 5, 2, 72);
    }

    private static void sinceTheBeginningOfAll() {
        Check.sentence("(since the beginning of all, as for op 6)");
        Host host = Host.begun();
        for (int round = 1; round <= 3; round++) {
            host.addQueue(1);
            host.status("zero 2", 1, Cmd.op(20).n(2).x(9), 0);
            host.status("read 3", 1, Cmd.op(18).n(3).p(512).q(528).x(9), 0);
            host.status("no such op", 1, Cmd.op(99), 1);
            due(host, 2, 1, 5 * round - 1, round, 3 * round, 2 * round);
            // op 6 itself is counted behind what it tells
            host.status("report", 0, Cmd.op(6).p(640), 0);
            int[] told = {5 * round - 1, round, 3 * round, 2 * round};
            for (int i = 0; i < 4; i++) {
                host.dueLong(641 + i, told[i]);
            }
            due(host, 2, 1, 5 * round, round, 3 * round, 2 * round);
            Check.due("stop", host.drive.stop(round % 2 == 0), 2);
            due(host, 0, 1, 5 * round, round, 3 * round, 2 * round);
            host.begin();
            due(host, 0, 1, 5 * round, round, 3 * round, 2 * round);
        }
    }

    private static void refusedForOthers() {
        Check.sentence("REFUSED for others.");
        Host host = Host.off();
        int[] others = {-1, -2, 6, 7, 256, Integer.MAX_VALUE, Integer.MIN_VALUE};
        for (int what : others) {
            host.dueCount(what, DoorbellDrive.REFUSED);
        }
        host.begin();
        for (int what : others) {
            host.dueCount(what, DoorbellDrive.REFUSED);
        }
        host.dueCount(0, 0);
        host.dueCount(5, 0);
    }
}
