/** Promise 6: ring. */
public final class P06RingTest {
    public static void main(String[] args) {
        howManyCommandsItHas();
        itGoesRound();
        off();
        noneSuch();
        noSuchPlace();
        Check.end();
    }

    private static void due(DoorbellDrive drive, int queue, int tail, int want) {
        Check.due("ring(" + queue + ", " + tail + ")", drive.ring(queue, tail), want);
    }

    private static void howManyCommandsItHas() {
        Check.sentence("The tail of a submission queue is told: how many commands it has.");
        for (int size : new int[] {2, 4, 16}) {
            DoorbellDrive drive = new DoorbellDrive();
            drive.begin(0, size, 256, 16);
            for (int tail = 0; tail < size; tail++) {
                due(drive, 0, tail, tail);
                Check.due("queue(0, 1)", drive.queue(0, 1), tail);
            }
            // it may be told as less than before, and as the head again
            due(drive, 0, 0, 0);
            Check.due("queue(0, 1)", drive.queue(0, 1), 0);
            Check.due("run(9)", drive.run(9), 0);
        }
        Host host = Host.withAllQueues();
        for (int q = 1; q <= 3; q++) {
            due(host.drive, q, 5 + q, 5 + q);
        }
        for (int q = 1; q <= 3; q++) {
            host.dueQueue(q, 2, 5 + q);
        }
    }

    private static void itGoesRound() {
        for (int size : new int[] {2, 4, 16}) {
            DoorbellDrive drive = new DoorbellDrive();
            drive.begin(0, size, 256, 16);
            for (int head = 1; head <= size; head++) {
                due(drive, 0, head % size, 1);
                Check.due("run(9)", drive.run(9), 1);
                drive.seen(0, head % 16);
                due(drive, 0, (head + size - 1) % size, size - 1);
                due(drive, 0, 0, (size - head) % size);
                due(drive, 0, size - 1, (2 * size - 1 - head) % size);
                due(drive, 0, head % size, 0);
            }
        }
    }

    private static void off() {
        Check.sentence("OFF; REFUSED if there is none such, or no such place in it.");
        DoorbellDrive drive = new DoorbellDrive();
        for (int queue : new int[] {-1, 0, 1, 4, 9}) {
            due(drive, queue, 0, DoorbellDrive.OFF);
            due(drive, queue, 99, DoorbellDrive.OFF);
            due(drive, queue, -1, DoorbellDrive.OFF);
        }
        drive.begin(0, 4, 256, 8);
        due(drive, 0, 3, 3);
        drive.stop(false);
        due(drive, 0, 3, DoorbellDrive.OFF);
        drive.begin(0, 4, 256, 8);
        due(drive, 0, 0, 0);
    }

    private static void noneSuch() {
        Host host = Host.ready();
        for (int queue : new int[] {-1, 2, 3, 4, 5, 256, Integer.MAX_VALUE, Integer.MIN_VALUE}) {
            due(host.drive, queue, 0, DoorbellDrive.REFUSED);
            due(host.drive, queue, 1, DoorbellDrive.REFUSED);
        }
        host.addCompletion(2, 288, 4, true);
        due(host.drive, 2, 1, DoorbellDrive.REFUSED);
        host.addSubmission(2, 128, 4, 2);
        due(host.drive, 2, 1, 1);
        host.dueRun(9, 1);
        host.status("it goes", 0, Cmd.op(4).p(2), 0);
        due(host.drive, 2, 1, DoorbellDrive.REFUSED);
        host.addSubmission(3, 192, 4, 2);
        due(host.drive, 3, 3, 3);
    }

    private static void noSuchPlace() {
        for (int size : new int[] {2, 3, 15, 16}) {
            DoorbellDrive drive = new DoorbellDrive();
            drive.begin(0, size, 256, 16);
            due(drive, 0, size - 1, size - 1);
            for (int tail : new int[] {-1, -2, -size, size, size + 1, 2 * size,
                Integer.MAX_VALUE, Integer.MIN_VALUE}) {
                due(drive, 0, tail, DoorbellDrive.REFUSED);
                Check.due("queue(0, 1)", drive.queue(0, 1), size - 1);
            }
            due(drive, 0, 0, 0);
        }
    }
}
