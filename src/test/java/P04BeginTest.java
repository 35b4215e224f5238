/** Promise 4: begin. */
public final class P04BeginTest {
    public static void main(String[] args) {
        queuesZeroAreMade();
        noOthersAndNoInterrupts();
        submissionEdges();
        completionEdges();
        refusedChangesNothing();
        notFromOff();
        Check.end();
    }

    private static void begin(int base, int size, int answers, int answersSize, int want) {
        DoorbellDrive drive = new DoorbellDrive();
        String call = "begin(" + base + ", " + size + ", " + answers + ", " + answersSize + ")";
        Check.due(call, drive.begin(base, size, answers, answersSize), want);
        Check.due("run(0) behind " + call, drive.run(0), want == 0 ? 0 : DoorbellDrive.OFF);
        Check.due("its size", drive.queue(0, 3), want == 0 ? size : DoorbellDrive.NONE);
        Check.due("that of answers", drive.queue(0, 8), want == 0 ? answersSize : DoorbellDrive.NONE);
    }

    private static void queuesZeroAreMade() {
        Check.sentence("From OFF: queues 0 are made, with these bases and sizes");
        int[][] cases = {{0, 2, 8, 2}, {960, 16, 940, 16}, {4, 3, 1020, 4}, {1016, 2, 0, 16}};
        for (int[] one : cases) {
            Host host = Host.begun(one[0], one[1], one[2], one[3]);
            int[] fresh = {0, 0, 0, one[1], 0, 0, 0, 1, one[3]};
            for (int what = 0; what <= 8; what++) {
                host.dueQueue(0, what, fresh[what]);
            }
            for (int i = 0; i <= one[1]; i++) {
                host.write(0, Cmd.op(7).id(30 + i).longs());
                host.ring(0);
                host.dueRun(1, 1);
                Check.due("the ID of the answer", host.take(0) & 0xFFFF, 30 + i);
            }
            host.dueLong(one[0], 7 | 30 + one[1] << 8);
        }
        Host again = Host.begun(0, 4, 256, 4);
        again.drive.stop(false);
        again.begin(64, 5, 512, 6);
        again.dueQueue(0, 3, 5);
        again.dueQueue(0, 8, 6);
        Check.due("the ID of the answer", again.send(0, Cmd.op(7).id(77)) & 0xFFFF, 77);
        Check.due("it is at 512", again.drive.peek(512) & 0xFFFF, 77);
    }

    private static void noOthersAndNoInterrupts() {
        Check.sentence("no others, no interrupts: 0");
        Host host = Host.withAllQueues();
        host.status("flush", 3, Cmd.op(16), 0);
        host.dueInterrupts(0, 9);
        host.drive.stop(false);
        host.begin();
        host.dueInterrupts(0, 0);
        for (int what = 0; what <= 8; what++) {
            for (int q = 1; q <= 3; q++) {
                host.dueQueue(q, what, DoorbellDrive.NONE);
            }
        }
        host.addQueue(1);
        host.dueInterrupts(0, 1);
        host.dueRun(9, 0);
    }

    private static void submissionEdges() {
        Check.sentence("REFUSED if they are not as they must be (looked at first)");
        int refused = DoorbellDrive.REFUSED;
        begin(0, 2, 256, 16, 0);
        begin(0, 16, 256, 16, 0);
        begin(0, 1, 256, 16, refused);
        begin(0, 0, 256, 16, refused);
        begin(0, -2, 256, 16, refused);
        begin(0, 17, 256, 16, refused);
        begin(0, Integer.MAX_VALUE, 256, 16, refused);
        begin(0, Integer.MIN_VALUE, 256, 16, refused);
        begin(4, 16, 256, 16, 0);
        begin(1, 16, 256, 16, refused);
        begin(2, 16, 256, 16, refused);
        begin(3, 16, 256, 16, refused);
        begin(-4, 16, 256, 16, refused);
        begin(1016, 2, 256, 16, 0);
        begin(1020, 2, 256, 16, refused);
        begin(1024, 2, 256, 16, refused);
        begin(960, 16, 256, 16, 0);
        begin(964, 15, 256, 16, 0);
        begin(964, 16, 256, 16, refused);
        begin(Integer.MAX_VALUE - 3, 2, 256, 16, refused);
        begin(Integer.MIN_VALUE, 2, 256, 16, refused);
    }

    private static void completionEdges() {
        int refused = DoorbellDrive.REFUSED;
        begin(0, 16, 256, 2, 0);
        begin(0, 16, 256, 1, refused);
        begin(0, 16, 256, 0, refused);
        begin(0, 16, 256, -1, refused);
        begin(0, 16, 256, 17, refused);
        begin(0, 16, 259, 4, refused);
        begin(0, 16, 258, 4, refused);
        begin(0, 16, 257, 4, refused);
        begin(0, 16, -4, 4, refused);
        begin(0, 16, 1008, 16, 0);
        begin(0, 16, 1012, 12, 0);
        begin(0, 16, 1012, 13, refused);
        begin(0, 16, 1020, 4, 0);
        begin(0, 16, 1020, 5, refused);
        begin(0, 16, 1024, 2, refused);
        begin(0, 16, Integer.MAX_VALUE - 3, 16, refused);
        begin(1, 17, 1, 17, refused);
    }

    private static void refusedChangesNothing() {
        Host host = Host.ready();
        host.place(1, Cmd.op(16));
        int[][] wrong = {{1, 8, 256, 4}, {0, 1, 256, 4}, {0, 8, 255, 4}, {0, 8, 256, 17}};
        for (int[] one : wrong) {
            Check.due("begin while it is on", host.drive.begin(one[0], one[1], one[2], one[3]),
                DoorbellDrive.REFUSED);
        }
        host.dueQueue(0, 3, 16);
        host.dueQueue(1, 2, 1);
        host.dueInterrupts(0, 1);
        host.dueRun(9, 1);
        Host off = Host.ready();
        off.drive.stop(false);
        off.dueInterrupts(0, 1);
        Check.due("begin(0, 1, 256, 4)", off.drive.begin(0, 1, 256, 4), DoorbellDrive.REFUSED);
        off.dueRun(0, DoorbellDrive.OFF);
        off.dueInterrupts(0, 1);
    }

    private static void notFromOff() {
        Check.sentence("NONE if it is not OFF.");
        Host host = Host.ready();
        host.place(1, Cmd.op(16));
        Check.due("begin as before", host.drive.begin(0, 16, 256, 16), DoorbellDrive.NONE);
        Check.due("begin elsewhere", host.drive.begin(64, 4, 512, 4), DoorbellDrive.NONE);
        host.dueQueue(0, 3, 16);
        host.dueQueue(0, 0, 2);
        host.dueQueue(1, 2, 1);
        host.dueInterrupts(0, 1);
        host.dueRun(9, 1);
        host.drive.stop(true);
        host.begin();
        Check.due("begin again", host.drive.begin(0, 16, 256, 16), DoorbellDrive.NONE);
    }
}
