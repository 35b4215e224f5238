/** Promise 4: begin. */
public final class P04BeginTest {
    public static void main(String[] args) {
        submissionEdges();
        completionEdges();
        refusedComesFirst();
        onlyQueuesZero();
        interruptsAreGone();
        queuesMayLieOverOneAnother();
        Check.end();
    }

    private static void begin(int base, int size, int answers, int answersSize, int want) {
        DoorbellDrive drive = new DoorbellDrive();
        String call = "begin(" + base + ", " + size + ", " + answers + ", " + answersSize + ")";
        Check.due(call, drive.begin(base, size, answers, answersSize), want);
        int off = want == 0 ? 0 : DoorbellDrive.OFF;
        Check.due("run(0) behind " + call, drive.run(0), off);
        if (want == 0) {
            Check.due("size", drive.queue(0, 3), size);
            Check.due("size of answers", drive.queue(0, 8), answersSize);
        }
    }

    private static void submissionEdges() {
        int refused = DoorbellDrive.REFUSED;
        begin(0, 2, 256, 16, 0);
        begin(0, 16, 256, 16, 0);
        begin(0, 1, 256, 16, refused);
        begin(0, 0, 256, 16, refused);
        begin(0, -2, 256, 16, refused);
        begin(0, 17, 256, 16, refused);
        begin(0, Integer.MAX_VALUE, 256, 16, refused);
        begin(0, Integer.MIN_VALUE, 256, 16, refused);
        begin(4, 16, 256, 16, 0);
        begin(1, 16, 256, 16, refused);
        begin(2, 16, 256, 16, refused);
        begin(-4, 16, 256, 16, refused);
        begin(1016, 2, 256, 16, 0);
        begin(1020, 2, 256, 16, refused);
        begin(1024, 2, 256, 16, refused);
        begin(960, 16, 256, 16, 0);
        begin(964, 15, 256, 16, 0);
        begin(964, 16, 256, 16, refused);
        begin(Integer.MAX_VALUE - 3, 2, 256, 16, refused);
        begin(Integer.MIN_VALUE, 2, 256, 16, refused);
    }

    private static void completionEdges() {
        int refused = DoorbellDrive.REFUSED;
        begin(0, 16, 256, 2, 0);
        begin(0, 16, 256, 1, refused);
        begin(0, 16, 256, 0, refused);
        begin(0, 16, 256, -1, refused);
        begin(0, 16, 256, 17, refused);
        begin(0, 16, 258, 4, refused);
        begin(0, 16, 257, 4, refused);
        begin(0, 16, -4, 4, refused);
        begin(0, 16, 1008, 16, 0);
        begin(0, 16, 1012, 12, 0);
        begin(0, 16, 1012, 13, refused);
        begin(0, 16, 1020, 4, 0);
        begin(0, 16, 1020, 5, refused);
        begin(0, 16, 1024, 2, refused);
        begin(0, 16, Integer.MAX_VALUE - 3, 16, refused);
    }

    private static void refusedComesFirst() {
        DoorbellDrive drive = new DoorbellDrive();
        Check.due("begin", drive.begin(0, 4, 256, 4), 0);
        Check.due("begin again", drive.begin(4, 8, 256, 4), DoorbellDrive.NONE);
        Check.due("begin with a wrong base", drive.begin(1, 8, 256, 4), DoorbellDrive.REFUSED);
        Check.due("begin with a wrong size", drive.begin(0, 8, 256, 1), DoorbellDrive.REFUSED);
        Check.due("size", drive.queue(0, 3), 4);
    }

    private static void onlyQueuesZero() {
        Host host = Host.ready();
        host.drive.stop(false);
        host.begin();
        int[] fresh = {0, 0, 0, 16, 0, 0, 0, 1, 16};
        for (int what = 0; what <= 8; what++) {
            host.dueQueue(0, what, fresh[what]);
            for (int q = 1; q <= 3; q++) {
                host.dueQueue(q, what, DoorbellDrive.NONE);
            }
        }
    }

    private static void interruptsAreGone() {
        Host host = Host.ready();
        Check.due("interrupts(0)", host.drive.interrupts(0), 1);
        host.drive.stop(false);
        host.begin();
        Check.due("interrupts(0)", host.drive.interrupts(0), 0);
    }

    private static void queuesMayLieOverOneAnother() {
        DoorbellDrive drive = new DoorbellDrive();
        drive.poke(0, 7 | 0xABCD << 8);
        drive.poke(4, 7);
        Check.due("begin(0, 2, 0, 2)", drive.begin(0, 2, 0, 2), 0);
        Check.due("peek(0)", drive.peek(0), 7 | 0xABCD << 8);
        Check.due("ring(0, 1)", drive.ring(0, 1), 1);
        Check.due("run(5)", drive.run(5), 1);
        Check.due("peek(0)", drive.peek(0), 0xABCDL | 1 << 20 | 1L << 36);
    }
}
