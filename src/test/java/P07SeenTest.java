/** Promise 7: seen. */
public final class P07SeenTest {
    public static void main(String[] args) {
        DoorbellDrive drive = new DoorbellDrive();
        due(drive, 0, 0, DoorbellDrive.OFF);
        due(drive, 9, 99, DoorbellDrive.OFF);
        drive.begin(0, 16, 256, 4);
        due(drive, 0, 0, 0);
        due(drive, 0, 1, DoorbellDrive.REFUSED);
        drive.ring(0, 15);
        Check.due("run(9)", drive.run(9), 3);
        due(drive, 0, 0, 3);
        due(drive, 0, 2, 1);
        due(drive, 0, 0, DoorbellDrive.REFUSED);
        due(drive, 0, 1, DoorbellDrive.REFUSED);
        Check.due("queue(0, 5)", drive.queue(0, 5), 2);
        Check.due("run(9)", drive.run(9), 2);
        round(drive);
        drive.stop(true);
        due(drive, 0, 0, DoorbellDrive.OFF);
        otherQueues();
        Check.end();
    }

    private static void due(DoorbellDrive drive, int queue, int head, int want) {
        Check.due("seen(" + queue + ", " + head + ")", drive.seen(queue, head), want);
    }

    /** The head is at 2 and the tail, round, at 1. */
    private static void round(DoorbellDrive drive) {
        int[] wrong = {-1, 4, 5, 16, Integer.MAX_VALUE, Integer.MIN_VALUE};
        for (int v : wrong) {
            due(drive, 0, v, DoorbellDrive.REFUSED);
            due(drive, v, 0, DoorbellDrive.REFUSED);
        }
        due(drive, 1, 0, DoorbellDrive.REFUSED);
        due(drive, 0, 3, 2);
        due(drive, 0, 2, DoorbellDrive.REFUSED);
        due(drive, 0, 0, 1);
        due(drive, 0, 3, DoorbellDrive.REFUSED);
        due(drive, 0, 1, 0);
        due(drive, 0, 1, 0);
        due(drive, 0, 0, DoorbellDrive.REFUSED);
    }

    private static void otherQueues() {
        Host host = Host.begun();
        host.status("completion queue 3", 0, Cmd.makeCompletion(3, 304, 2), 0);
        due(host.drive, 3, 0, 0);
        due(host.drive, 3, 1, DoorbellDrive.REFUSED);
        due(host.drive, 3, 2, DoorbellDrive.REFUSED);
        due(host.drive, 2, 0, DoorbellDrive.REFUSED);
    }
}
