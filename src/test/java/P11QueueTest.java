/** Promise 11: queue, what a queue is like. */
public final class P11QueueTest {
    public static void main(String[] args) {
        wrongWhatComesFirst();
        eachNumber();
        halvesAreApart();
        phaseTurnsRound();
        Check.end();
    }

    private static void wrongWhatComesFirst() {
        Host host = Host.off();
        for (int what : new int[] {-1, 9, 10, Integer.MAX_VALUE, Integer.MIN_VALUE}) {
            for (int q : new int[] {0, 1, 4, -1}) {
                host.dueQueue(q, what, DoorbellDrive.REFUSED);
            }
        }
        host.begin();
        for (int what : new int[] {-1, 9}) {
            host.dueQueue(0, what, DoorbellDrive.REFUSED);
            host.dueQueue(7, what, DoorbellDrive.REFUSED);
        }
        for (int q : new int[] {-1, 4, 256, Integer.MAX_VALUE, Integer.MIN_VALUE}) {
            for (int what = 0; what <= 8; what++) {
                host.dueQueue(q, what, DoorbellDrive.NONE);
            }
        }
    }

    private static void eachNumber() {
        Host host = Host.begun();
        host.status("completion queue 2", 0, Cmd.makeCompletion(2, 288, 7), 0);
        host.status("submission queue 3", 0, Cmd.makeSubmission(3, 192, 9, 2), 0);
        for (int i = 0; i < 5; i++) {
            host.place(3, Cmd.op(16));
        }
        Check.due("run(2)", host.drive.run(2), 2);
        Check.due("seen(2, 1)", host.drive.seen(2, 1), 1);
        int[] submission = {2, 5, 3, 9, 2};
        for (int what = 0; what <= 4; what++) {
            host.dueQueue(3, what, submission[what]);
        }
        int[] completion = {1, 2, 1, 7};
        for (int what = 5; what <= 8; what++) {
            host.dueQueue(2, what, completion[what - 5]);
        }
        int[] admin = {2, 2, 0, 16, 0, 2, 2, 1, 16};
        for (int what = 0; what <= 8; what++) {
            host.dueQueue(0, what, admin[what]);
        }
    }

    private static void halvesAreApart() {
        Host host = Host.begun();
        host.status("completion queue 2", 0, Cmd.makeCompletion(2, 288, 7), 0);
        host.status("submission queue 3", 0, Cmd.makeSubmission(3, 192, 9, 2), 0);
        for (int what = 0; what <= 4; what++) {
            host.dueQueue(2, what, DoorbellDrive.NONE);
        }
        for (int what = 5; what <= 8; what++) {
            host.dueQueue(3, what, DoorbellDrive.NONE);
        }
    }

    private static void phaseTurnsRound() {
        DoorbellDrive drive = new DoorbellDrive();
        drive.begin(0, 16, 256, 3);
        int phase = 1;
        for (int i = 1; i <= 12; i++) {
            drive.ring(0, i);
            Check.due("run(1)", drive.run(1), 1);
            Check.due("phase of the answer", drive.peek(256 + (i - 1) % 3) >> 36, phase);
            phase = i % 3 == 0 ? 1 - phase : phase;
            Check.due("queue(0, 6)", drive.queue(0, 6), i % 3);
            Check.due("queue(0, 7)", drive.queue(0, 7), phase);
            drive.seen(0, i % 3);
        }
    }
}
