/** Promise 6: ring. */
public final class P06RingTest {
    public static void main(String[] args) {
        DoorbellDrive drive = new DoorbellDrive();
        due(drive, 0, 0, DoorbellDrive.OFF);
        due(drive, 9, 99, DoorbellDrive.OFF);
        drive.begin(0, 4, 256, 8);
        for (int tail = 0; tail < 4; tail++) {
            due(drive, 0, tail, tail);
            Check.due("queue(0, 1)", drive.queue(0, 1), tail);
        }
        due(drive, 0, 2, 2);
        refused(drive);
        Check.due("queue(0, 1)", drive.queue(0, 1), 2);
        Check.due("run(9)", drive.run(9), 2);
        due(drive, 0, 2, 0);
        due(drive, 0, 3, 1);
        due(drive, 0, 0, 2);
        due(drive, 0, 1, 3);
        drive.stop(false);
        due(drive, 0, 0, DoorbellDrive.OFF);
        otherQueues();
        Check.end();
    }

    private static void due(DoorbellDrive drive, int queue, int tail, int want) {
        Check.due("ring(" + queue + ", " + tail + ")", drive.ring(queue, tail), want);
    }

    private static void refused(DoorbellDrive drive) {
        int[] wrong = {-1, 4, 5, 16, Integer.MAX_VALUE, Integer.MIN_VALUE};
        for (int v : wrong) {
            due(drive, 0, v, DoorbellDrive.REFUSED);
            due(drive, v, 0, DoorbellDrive.REFUSED);
        }
        due(drive, 1, 0, DoorbellDrive.REFUSED);
        due(drive, 3, 0, DoorbellDrive.REFUSED);
    }

    private static void otherQueues() {
        Host host = Host.ready();
        due(host.drive, 1, 15, 15);
        due(host.drive, 1, 16, DoorbellDrive.REFUSED);
        due(host.drive, 2, 1, DoorbellDrive.REFUSED);
        host.status("only completion queue 2", 0, Cmd.makeCompletion(2, 288, 4), 0);
        due(host.drive, 2, 1, DoorbellDrive.REFUSED);
    }
}
