/** Promise 8: run, commands in turn. */
public final class P08RunTest {
    public static void main(String[] args) {
        atMostN();
        manyAtOnce();
        fromQueueZeroAtFirst();
        fromTheQueueBehindTheLatest();
        roundFromEachQueue();
        turnStaysThroughOtherCalls();
        turnGoesOnWhateverTheStatus();
        onlyQueuesWithCommands();
        fullOnesAreLeftOut();
        fullOneBehindItsOwnAnswer();
        commandsOfARunSeeOneAnother();
        offAndRefused();
        Check.end();
    }

    /** A command that a queue has, whichever it is. */
    private static void placeAny(Host host, int queue) {
        host.place(queue, Cmd.op(queue == 0 ? 7 : 16));
    }

    /** The next command is one of this queue. */
    private static void dueNext(Host host, int queue) {
        int before = host.drive.queue(queue, 2);
        host.dueRun(1, 1);
        host.dueQueue(queue, 2, before - 1);
    }

    private static void atMostN() {
        Check.sentence("At most n (0 to 200) commands are done, in turn");
        Host host = Host.begun();
        for (int i = 0; i < 9; i++) {
            host.place(0, Cmd.op(i == 1 ? 99 : 7));
        }
        host.dueRun(0, 0);
        host.dueQueue(0, 2, 9);
        host.dueRun(1, 1);
        host.dueQueue(0, 2, 8);
        host.dueRun(2, 2);
        host.dueQueue(0, 2, 6);
        host.dueRun(5, 5);
        host.dueQueue(0, 2, 1);
        host.dueRun(2, 1);
        host.dueRun(2, 0);
        host.dueRun(0, 0);
        host.dueCount(2, 8);
        host.dueCount(3, 1);
    }

    /** As many as there can be: 15 of each queue. */
    private static void manyAtOnce() {
        for (int n : new int[] {0, 1, 59, 60, 61, 199, 200}) {
            Host host = Host.withAllQueues();
            for (int q = 0; q <= 3; q++) {
                host.drive.ring(q, (host.drive.queue(q, 0) + 15) % 16);
            }
            host.dueRun(n, Math.min(n, 60));
            host.dueRun(200, 60 - Math.min(n, 60));
            host.dueRun(200, 0);
        }
    }

    private static void fromQueueZeroAtFirst() {
        Check.sentence("(0 at first, and behind begin())");
        Host host = Host.begun();
        placeAny(host, 0);
        dueNext(host, 0);
        host.addQueue(3);
        host.status("the latest is of queue 3", 3, Cmd.op(16), 0);
        host.drive.stop(false);
        host.begin();
        placeAny(host, 0);
        dueNext(host, 0);
    }

    private static void fromTheQueueBehindTheLatest() {
        Check.sentence("from the queue behind that of the latest one on");
        Host host = Host.withAllQueues();
        for (int i = 0; i < 3; i++) {
            placeAny(host, 0);
            placeAny(host, 1);
            placeAny(host, 3);
        }
        placeAny(host, 2);
        // the latest was of queue 0
        int[] order = {1, 2, 3, 0, 1, 3, 0, 1, 3, 0};
        for (int q : order) {
            dueNext(host, q);
        }
        host.dueRun(1, 0);
    }

    private static void roundFromEachQueue() {
        Check.sentence(", round, the first that has a command");
        for (int latest = 0; latest <= 3; latest++) {
            for (int distance = 1; distance <= 4; distance++) {
                Host host = Host.withAllQueues();
                host.status("the latest", latest, Cmd.op(latest == 0 ? 7 : 16), 0);
                // the first that has one is so far behind; those from there to the latest have one
                for (int further = distance; further <= 4; further++) {
                    placeAny(host, (latest + further) % 4);
                }
                for (int further = distance; further <= 4; further++) {
                    dueNext(host, (latest + further) % 4);
                }
            }
        }
    }

    private static void turnStaysThroughOtherCalls() {
        Host host = Host.withAllQueues();
        host.status("the latest is of queue 2", 2, Cmd.op(16), 0);
        host.dueRun(9, 0);
        host.dueRun(0, 0);
        host.dueRun(201, DoorbellDrive.REFUSED);
        for (int q = 0; q <= 3; q++) {
            placeAny(host, q);
        }
        host.dueRun(0, 0);
        dueNext(host, 3);
        host.dueRun(-1, DoorbellDrive.REFUSED);
        dueNext(host, 0);
    }

    /** A command whose status is another than 0 is the latest one as well. */
    private static void turnGoesOnWhateverTheStatus() {
        for (int wrong = 0; wrong <= 3; wrong++) {
            Host host = Host.withAllQueues();
            host.place(wrong, Cmd.op(99));
            host.dueRun(1, 1);
            host.dueCount(3, 1);
            for (int q = 0; q <= 3; q++) {
                placeAny(host, q);
            }
            for (int further = 1; further <= 4; further++) {
                dueNext(host, (wrong + further) % 4);
            }
        }
    }

    private static void onlyQueuesWithCommands() {
        Host host = Host.withAllQueues();
        placeAny(host, 2);
        placeAny(host, 2);
        placeAny(host, 2);
        host.dueRun(2, 2);
        host.dueQueue(2, 2, 1);
        placeAny(host, 1);
        dueNext(host, 1);
        dueNext(host, 2);
        host.dueRun(9, 0);
        Check.due("ring(2, 4)", host.drive.ring(2, 4), 1);
        Check.due("ring(2, 3): taken back", host.drive.ring(2, 3), 0);
        host.dueRun(9, 0);
    }

    private static void fullOnesAreLeftOut() {
        Check.sentence("and does not answer to a FULL one: how many.");
        Host host = Host.begun();
        host.addCompletion(1, 272, 2, true);
        host.addCompletion(2, 288, 3, true);
        host.addSubmission(1, 64, 16, 1);
        host.addSubmission(2, 128, 16, 2);
        host.addSubmission(3, 192, 16, 1);
        for (int i = 0; i < 3; i++) {
            for (int q = 1; q <= 3; q++) {
                placeAny(host, q);
            }
        }
        host.dueRun(100, 3);
        host.dueQueue(1, 2, 2);
        host.dueQueue(2, 2, 1);
        host.dueQueue(3, 2, 3);
        Check.due("seen(1, 1)", host.drive.seen(1, 1), 0);
        // the latest was of queue 2: so it is now queue 3's turn at completion queue 1
        host.dueRun(100, 1);
        host.dueQueue(3, 2, 2);
        Check.due("seen(1, 0)", host.drive.seen(1, 0), 0);
        host.dueRun(100, 1);
        host.dueQueue(1, 2, 1);
        Check.due("seen(2, 1)", host.drive.seen(2, 1), 1);
        host.dueRun(100, 1);
        host.dueQueue(2, 2, 0);
        host.dueRun(100, 0);
        placeAny(host, 0);
        host.dueRun(100, 1);
    }

    /** A queue that is left out keeps its command, and its turn is not taken. */
    private static void fullOneBehindItsOwnAnswer() {
        Host host = Host.begun(0, 4, 256, 2);
        host.place(0, Cmd.op(7).id(1));
        host.place(0, Cmd.op(7).id(2));
        host.place(0, Cmd.op(7).id(3));
        for (int id = 1; id <= 3; id++) {
            host.dueRun(200, 1);
            host.dueRun(200, 0);
            host.dueQueue(0, 2, 3 - id);
            host.dueCount(2, id);
            Check.due("the ID of the answer", host.take(0) & 0xFFFF, id);
        }
        host.dueRun(200, 0);
    }

    private static void commandsOfARunSeeOneAnother() {
        Host host = Host.begun();
        host.place(0, Cmd.makeCompletion(1, 272, 4));
        host.place(0, Cmd.makeSubmission(1, 64, 4, 1));
        host.place(0, Cmd.op(4).p(1));
        host.place(0, Cmd.op(3).p(1));
        host.place(0, Cmd.op(4).p(1));
        host.dueRun(200, 5);
        host.dueCount(2, 4);
        host.dueCount(3, 1);
        host.dueQueue(1, 0, DoorbellDrive.NONE);
        host.dueQueue(1, 5, DoorbellDrive.NONE);
    }

    private static void offAndRefused() {
        Check.sentence("OFF; REFUSED for another n.");
        Host host = Host.off();
        for (int n : new int[] {-1, 0, 1, 200, 201, Integer.MAX_VALUE, Integer.MIN_VALUE}) {
            host.dueRun(n, DoorbellDrive.OFF);
        }
        host.begin();
        placeAny(host, 0);
        for (int n : new int[] {-1, -2, -200, 201, 202, Integer.MAX_VALUE, Integer.MIN_VALUE}) {
            host.dueRun(n, DoorbellDrive.REFUSED);
        }
        host.dueQueue(0, 2, 1);
        host.dueCount(2, 0);
        host.dueRun(0, 0);
        host.dueRun(200, 1);
        host.drive.stop(false);
        host.dueRun(201, DoorbellDrive.OFF);
        host.dueRun(1, DoorbellDrive.OFF);
    }
}
