/** Promise 11: queue, what a queue is like. */
public final class P11QueueTest {
    public static void main(String[] args) {
        ofASubmissionQueue();
        ofACompletionQueue();
        none();
        noneOfOneKind();
        refusedForAnotherWhat();
        Check.end();
    }

    private static Host withSome() {
        Host host = Host.begun();
        host.addCompletion(2, 288, 7, true);
        host.addSubmission(3, 192, 9, 2);
        for (int i = 0; i < 5; i++) {
            host.place(3, Cmd.op(16));
        }
        host.dueRun(2, 2);
        Check.due("seen(2, 1)", host.drive.seen(2, 1), 1);
        return host;
    }

    private static void due(Host host, int q, int from, int... want) {
        for (int i = 0; i < want.length; i++) {
            host.dueQueue(q, from + i, want[i]);
        }
    }

    private static void ofASubmissionQueue() {
        Check.sentence("Of submission queue q, what 0: head, 1: tail, 2: commands in it, "
            + "3: its size, 4: the completion queue it answers to");
        Host host = withSome();
        due(host, 3, 0, 2, 5, 3, 9, 2);
        due(host, 0, 0, 2, 2, 0, 16, 0);
        Check.due("ring(3, 8): the last place", host.drive.ring(3, 8), 6);
        due(host, 3, 0, 2, 8, 6, 9, 2);
        Check.due("ring(3, 1): round", host.drive.ring(3, 1), 8);
        due(host, 3, 0, 2, 1, 8, 9, 2);
        host.dueRun(9, 5);
        due(host, 3, 0, 7, 1, 3, 9, 2);
        Check.due("seen(2, 0)", host.drive.seen(2, 0), 0);
        host.dueRun(2, 2);
        due(host, 3, 0, 0, 1, 1, 9, 2);
    }

    private static void ofACompletionQueue() {
        Check.sentence("of completion queue q, what 5: head, 6: tail, 7: phase, 8: its size.");
        Host host = withSome();
        due(host, 2, 5, 1, 2, 1, 7);
        due(host, 0, 5, 2, 2, 1, 16);
        Check.due("ring(3, 1)", host.drive.ring(3, 1), 8);
        host.dueRun(4, 4);
        due(host, 2, 5, 1, 6, 1, 7);
        host.dueRun(4, 1);
        due(host, 2, 5, 1, 0, 0, 7);
        Check.due("seen(2, 0)", host.drive.seen(2, 0), 0);
        due(host, 2, 5, 0, 0, 0, 7);
        host.dueRun(9, 3);
        due(host, 2, 5, 0, 3, 0, 7);
    }

    private static void none() {
        Check.sentence("NONE if there is none (also while it is OFF)");
        Host host = Host.off();
        for (int q = -1; q <= 4; q++) {
            for (int what = 0; what <= 8; what++) {
                host.dueQueue(q, what, DoorbellDrive.NONE);
            }
        }
        host.begin();
        for (int q : new int[] {-1, 1, 2, 3, 4, 256, Integer.MAX_VALUE, Integer.MIN_VALUE}) {
            for (int what = 0; what <= 8; what++) {
                host.dueQueue(q, what, DoorbellDrive.NONE);
            }
        }
        for (int what = 0; what <= 8; what++) {
            Check.so("queue(0, " + what + ")", host.drive.queue(0, what) >= 0);
        }
        host.drive.stop(false);
        for (int what = 0; what <= 8; what++) {
            host.dueQueue(0, what, DoorbellDrive.NONE);
        }
    }

    private static void noneOfOneKind() {
        Host host = withSome();
        for (int what = 0; what <= 4; what++) {
            host.dueQueue(2, what, DoorbellDrive.NONE);
            Check.so("queue(3, " + what + ")", host.drive.queue(3, what) >= 0);
        }
        for (int what = 5; what <= 8; what++) {
            host.dueQueue(3, what, DoorbellDrive.NONE);
            Check.so("queue(2, " + what + ")", host.drive.queue(2, what) >= 0);
        }
    }

    private static void refusedForAnotherWhat() {
        Check.sentence("REFUSED for another what, first.");
        Host host = Host.off();
        int[] others = {-1, -2, 9, 10, 100, Integer.MAX_VALUE, Integer.MIN_VALUE};
        for (int what : others) {
            for (int q : new int[] {-1, 0, 1, 4}) {
                host.dueQueue(q, what, DoorbellDrive.REFUSED);
            }
        }
        host.begin();
        for (int what : others) {
            for (int q : new int[] {-1, 0, 1, 4}) {
                host.dueQueue(q, what, DoorbellDrive.REFUSED);
            }
        }
    }
}
