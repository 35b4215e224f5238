/** Promise 7: seen. */
public final class P07SeenTest {
    public static void main(String[] args) {
        howManyAreLeft();
        off();
        noneSuch();
        noSuchPlace();
        fromHeadToTail();
        fromHeadToTailRound();
        Check.end();
    }

    private static void due(DoorbellDrive drive, int queue, int head, int want) {
        Check.due("seen(" + queue + ", " + head + ")", drive.seen(queue, head), want);
    }

    /** A drive whose completion queue has this size, head, and as many answers. */
    private static DoorbellDrive with(int size, int head, int answers) {
        DoorbellDrive drive = new DoorbellDrive();
        drive.begin(0, 16, 256, size);
        for (int i = 1; i <= head; i++) {
            drive.ring(0, i);
            drive.run(1);
            drive.seen(0, i);
        }
        drive.ring(0, (head + answers) % 16);
        Check.due("run(200)", drive.run(200), answers);
        Check.due("head", drive.queue(0, 5), head);
        return drive;
    }

    private static void howManyAreLeft() {
        Check.sentence("The head of a completion queue is told: how many answers are left.");
        for (int size : new int[] {2, 4, 16}) {
            for (int told = 0; told < size; told++) {
                DoorbellDrive drive = with(size, 0, size - 1);
                due(drive, 0, told, size - 1 - told);
                Check.due("queue(0, 5)", drive.queue(0, 5), told);
                Check.due("queue(0, 6)", drive.queue(0, 6), size - 1);
                due(drive, 0, size - 1, 0);
                due(drive, 0, size - 1, 0);
            }
        }
        Host host = Host.withAllQueues();
        for (int q = 1; q <= 3; q++) {
            host.place(q, Cmd.op(16));
        }
        host.dueRun(9, 3);
        for (int q = 1; q <= 3; q++) {
            due(host.drive, q, 0, 1);
            due(host.drive, q, 1, 0);
        }
    }

    private static void off() {
        Check.sentence("OFF; REFUSED if there is none such, or no such place,");
        DoorbellDrive drive = new DoorbellDrive();
        for (int queue : new int[] {-1, 0, 1, 4, 9}) {
            due(drive, queue, 0, DoorbellDrive.OFF);
            due(drive, queue, 99, DoorbellDrive.OFF);
            due(drive, queue, -1, DoorbellDrive.OFF);
        }
        drive.begin(0, 4, 256, 8);
        due(drive, 0, 0, 0);
        drive.stop(true);
        due(drive, 0, 0, DoorbellDrive.OFF);
        drive.begin(0, 4, 256, 8);
        due(drive, 0, 0, 0);
    }

    private static void noneSuch() {
        Host host = Host.ready();
        for (int queue : new int[] {-1, 2, 3, 4, 5, 256, Integer.MAX_VALUE, Integer.MIN_VALUE}) {
            due(host.drive, queue, 0, DoorbellDrive.REFUSED);
        }
        host.addCompletion(3, 304, 4, true);
        due(host.drive, 3, 0, 0);
        host.addSubmission(2, 128, 4, 3);
        due(host.drive, 2, 0, DoorbellDrive.REFUSED);
        host.status("submission queue 2 goes", 0, Cmd.op(4).p(2), 0);
        host.status("completion queue 3 goes", 0, Cmd.op(3).p(3), 0);
        due(host.drive, 3, 0, DoorbellDrive.REFUSED);
    }

    private static void noSuchPlace() {
        for (int size : new int[] {2, 3, 15, 16}) {
            DoorbellDrive drive = with(size, 0, size - 1);
            for (int head : new int[] {-1, -2, -size, size, size + 1, 2 * size,
                Integer.MAX_VALUE, Integer.MIN_VALUE}) {
                due(drive, 0, head, DoorbellDrive.REFUSED);
                Check.due("queue(0, 5)", drive.queue(0, 5), 0);
            }
            due(drive, 0, size - 1, 0);
        }
    }

    private static void fromHeadToTail() {
        Check.sentence("or one that is not from its head to its tail, round.");
        DoorbellDrive empty = with(4, 0, 0);
        for (int head = 0; head < 4; head++) {
            due(empty, 0, head, head == 0 ? 0 : DoorbellDrive.REFUSED);
        }
        // the head at 1, the tail at 3
        for (int head = 0; head < 5; head++) {
            DoorbellDrive drive = with(5, 1, 2);
            boolean in = head >= 1 && head <= 3;
            due(drive, 0, head, in ? 3 - head : DoorbellDrive.REFUSED);
            Check.due("queue(0, 5)", drive.queue(0, 5), in ? head : 1);
        }
        DoorbellDrive drive = with(5, 1, 2);
        due(drive, 0, 3, 0);
        due(drive, 0, 1, DoorbellDrive.REFUSED);
        due(drive, 0, 2, DoorbellDrive.REFUSED);
        due(drive, 0, 4, DoorbellDrive.REFUSED);
        due(drive, 0, 3, 0);
    }

    private static void fromHeadToTailRound() {
        // the head at 3 of 5, the tail at 1: 3, 4, 0 and 1 are from one to the other
        int[] left = {1, 0, DoorbellDrive.REFUSED, 3, 2};
        for (int head = 0; head < 5; head++) {
            due(with(5, 3, 3), 0, head, left[head]);
        }
        // the tail at 0
        int[] toZero = {0, DoorbellDrive.REFUSED, DoorbellDrive.REFUSED, 2, 1};
        for (int head = 0; head < 5; head++) {
            due(with(5, 3, 2), 0, head, toZero[head]);
        }
        // FULL, so that every place is from one to the other
        int[] full = {2, 1, 0, 4, 3};
        for (int head = 0; head < 5; head++) {
            due(with(5, 3, 4), 0, head, full[head]);
        }
        int[] smallest = {0, 1};
        for (int head = 0; head < 2; head++) {
            due(with(2, 1, 1), 0, head, smallest[head]);
        }
        int[] none = {DoorbellDrive.REFUSED, 0};
        for (int head = 0; head < 2; head++) {
            due(with(2, 1, 0), 0, head, none[head]);
        }
    }
}
