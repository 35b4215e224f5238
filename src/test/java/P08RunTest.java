/** Promise 8: run, commands in turn. */
public final class P08RunTest {
    public static void main(String[] args) {
        offAndRefused();
        atMostN();
        inTurn();
        fullOnesAreLeftOut();
        turnGoesOnBehindTheLatest();
        commandsOfARunSeeOneAnother();
        manyAtOnce();
        Check.end();
    }

    private static void due(Host host, int n, int want) {
        Check.due("run(" + n + ")", host.drive.run(n), want);
    }

    private static void offAndRefused() {
        Host host = Host.off();
        for (int n : new int[] {0, 1, 200, 201, -1}) {
            due(host, n, DoorbellDrive.OFF);
        }
        host.begin();
        host.place(0, Cmd.op(7));
        for (int n : new int[] {-1, 201, Integer.MAX_VALUE, Integer.MIN_VALUE}) {
            due(host, n, DoorbellDrive.REFUSED);
        }
        due(host, 0, 0);
        host.dueCount(2, 0);
        due(host, 200, 1);
    }

    private static void atMostN() {
        Host host = Host.begun();
        for (int i = 0; i < 5; i++) {
            host.place(0, Cmd.op(i == 1 ? 99 : 7));
        }
        due(host, 2, 2);
        host.dueQueue(0, 2, 3);
        due(host, 4, 3);
        due(host, 4, 0);
        host.dueCount(2, 4);
        host.dueCount(3, 1);
    }

    private static Host withFourQueues() {
        Host host = Host.begun();
        for (int q = 1; q <= 3; q++) {
            host.addQueue(q);
        }
        return host;
    }

    private static void inTurn() {
        Host host = withFourQueues();
        for (int i = 0; i < 3; i++) {
            host.place(0, Cmd.op(7));
            host.place(1, Cmd.op(16));
            host.place(3, Cmd.op(16));
        }
        host.place(2, Cmd.op(16));
        // the latest was of queue 0
        int[] order = {1, 2, 3, 0, 1, 3, 0, 1, 3, 0};
        for (int q : order) {
            int before = host.drive.queue(q, 2);
            due(host, 1, 1);
            host.dueQueue(q, 2, before - 1);
        }
        due(host, 1, 0);
    }

    private static void fullOnesAreLeftOut() {
        Host host = Host.begun();
        host.status("completion queue 1", 0, Cmd.makeCompletion(1, 272, 2), 0);
        host.status("completion queue 2", 0, Cmd.makeCompletion(2, 288, 3), 0);
        host.status("submission queue 1", 0, Cmd.makeSubmission(1, 64, 16, 1), 0);
        host.status("submission queue 2", 0, Cmd.makeSubmission(2, 128, 16, 2), 0);
        host.status("submission queue 3", 0, Cmd.makeSubmission(3, 192, 16, 1), 0);
        for (int i = 0; i < 3; i++) {
            for (int q = 1; q <= 3; q++) {
                host.place(q, Cmd.op(16));
            }
        }
        due(host, 100, 3);
        host.dueQueue(1, 2, 2);
        host.dueQueue(2, 2, 1);
        host.dueQueue(3, 2, 3);
        Check.due("seen(1, 1)", host.drive.seen(1, 1), 0);
        // the latest was of queue 2: so it is now queue 3's turn at completion queue 1
        due(host, 100, 1);
        host.dueQueue(3, 2, 2);
        Check.due("seen(1, 0)", host.drive.seen(1, 0), 0);
        due(host, 100, 1);
        host.dueQueue(1, 2, 1);
        Check.due("seen(2, 2)", host.drive.seen(2, 2), 0);
        due(host, 100, 1);
        host.dueQueue(2, 2, 0);
    }

    private static void turnGoesOnBehindTheLatest() {
        Host host = withFourQueues();
        host.status("flush by queue 2", 2, Cmd.op(16), 0);
        for (int q = 0; q <= 2; q++) {
            host.place(q, Cmd.op(q == 0 ? 7 : 16));
        }
        due(host, 0, 0);
        due(host, 1, 1);
        host.dueQueue(0, 2, 0);
        host.dueQueue(1, 2, 1);
        due(host, 1, 1);
        host.dueQueue(1, 2, 0);
        host.dueQueue(2, 2, 1);
    }

    private static void commandsOfARunSeeOneAnother() {
        Host host = Host.begun();
        host.place(0, Cmd.makeCompletion(1, 272, 4));
        host.place(0, Cmd.makeSubmission(1, 64, 4, 1));
        host.place(0, Cmd.op(4).p(1));
        host.place(0, Cmd.op(3).p(1));
        host.place(0, Cmd.op(4).p(1));
        due(host, 200, 5);
        host.dueCount(2, 4);
        host.dueCount(3, 1);
        host.dueQueue(1, 0, DoorbellDrive.NONE);
        host.dueQueue(1, 5, DoorbellDrive.NONE);
    }

    private static void manyAtOnce() {
        Host host = withFourQueues();
        for (int q = 0; q <= 3; q++) {
            host.drive.ring(q, (host.drive.queue(q, 0) + 15) % 16);
        }
        due(host, 59, 59);
        due(host, 200, 1);
        due(host, 200, 0);
    }
}
