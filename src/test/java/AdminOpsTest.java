/** Terms: the ops of submission queue 0. */
public final class AdminOpsTest {
    public static void main(String[] args) {
        opsThatThereAreNot();
        completionQueuesAreMade();
        submissionQueuesAreMade();
        completionQueuesGo();
        submissionQueuesGo();
        memoryStaysWhenAQueueIsMade();
        caching();
        report();
        reportOverTwoPages();
        cached();
        Check.end();
    }

    private static void opsThatThereAreNot() {
        Host host = Host.begun();
        for (int op : new int[] {0, 8, 15, 16, 17, 18, 19, 20, 21, 22, 128, 255}) {
            host.status("op " + op, 0, Cmd.op(op).p(512), 1);
        }
        host.dueCount(3, 12);
    }

    private static void completionQueuesAreMade() {
        Host host = Host.begun();
        long[] wrongNumbers = {0, 4, -1, 1L << 32 | 1, Long.MAX_VALUE, Long.MIN_VALUE};
        for (long number : wrongNumbers) {
            host.status("number " + number, 0, Cmd.makeCompletion(number, 288, 4), 2);
        }
        long[] wrongBases = {1, 2, 1012, 1024, -4, 1L << 32, Long.MAX_VALUE - 3, Long.MIN_VALUE};
        for (long base : wrongBases) {
            host.status("base " + base, 0, Cmd.makeCompletion(1, base, 13), 2);
        }
        long[] wrongSizes = {0, 1, 17, -2, 1L << 32 | 4, Long.MAX_VALUE, Long.MIN_VALUE};
        for (long size : wrongSizes) {
            host.status("size " + size, 0, Cmd.makeCompletion(1, 0, size), 2);
        }
        host.dueQueue(1, 8, DoorbellDrive.NONE);
        host.status("the last places", 0, Cmd.makeCompletion(1, 1012, 12), 0);
        host.status("it is there", 0, Cmd.makeCompletion(1, 1012, 12), 2);
        host.status("the least size, n without meaning", 0, Cmd.makeCompletion(2, 4, 2).n(256), 0);
        host.status("the greatest size", 0, Cmd.makeCompletion(3, 1008, 16).flag(), 0);
        host.dueQueue(1, 8, 12);
        host.dueQueue(2, 8, 2);
        host.dueQueue(3, 8, 16);
    }

    private static void submissionQueuesAreMade() {
        Host host = Host.begun();
        host.status("completion queue 1", 0, Cmd.makeCompletion(1, 272, 4), 0);
        host.status("completion queue 3", 0, Cmd.makeCompletion(3, 304, 4), 0);
        long[] wrongNumbers = {0, 4, -1, 1L << 32 | 1, Long.MIN_VALUE | 1};
        for (long number : wrongNumbers) {
            host.status("number " + number, 0, Cmd.makeSubmission(number, 64, 4, 1), 2);
        }
        long[] wrongBases = {2, 63, 1012, 1024, -4, 1L << 40, Long.MAX_VALUE - 3};
        for (long base : wrongBases) {
            host.status("base " + base, 0, Cmd.makeSubmission(1, base, 4, 1), 2);
        }
        long[] wrongSizes = {0, 1, 17, -2, 1L << 62 | 4, Long.MAX_VALUE};
        for (long size : wrongSizes) {
            host.status("size " + size, 0, Cmd.makeSubmission(1, 0, size, 1), 2);
        }
        for (int answersTo : new int[] {0, 2, 4, 255}) {
            host.status("answers to " + answersTo, 0, Cmd.makeSubmission(1, 64, 4, answersTo), 2);
        }
        host.dueQueue(1, 3, DoorbellDrive.NONE);
        host.status("the last places", 0, Cmd.makeSubmission(1, 1008, 4, 3), 0);
        host.status("it is there", 0, Cmd.makeSubmission(1, 64, 4, 1), 2);
        host.status("the greatest size", 0, Cmd.makeSubmission(2, 960, 16, 3).flag(), 0);
        host.dueQueue(1, 4, 3);
        host.dueQueue(1, 3, 4);
        host.dueQueue(2, 4, 3);
        host.dueQueue(2, 3, 16);
    }

    private static void completionQueuesGo() {
        Host host = Host.ready();
        host.addQueue(2);
        for (long number : new long[] {0, 3, 4, -1, 1L << 32 | 1, Long.MAX_VALUE}) {
            host.status("goes: " + number, 0, Cmd.op(3).p(number), 2);
        }
        host.status("one that is answered to", 0, Cmd.op(3).p(1), 2);
        host.dueQueue(1, 8, 16);
        host.status("its submission queue goes", 0, Cmd.op(4).p(1), 0);
        host.status("now it goes", 0, Cmd.op(3).p(1).q(-1).x(-1).n(77).flag(), 0);
        host.dueQueue(1, 8, DoorbellDrive.NONE);
        host.dueQueue(2, 8, 16);
        host.status("it is not there", 0, Cmd.op(3).p(1), 2);
        host.status("nothing to answer to", 0, Cmd.makeSubmission(1, 64, 4, 1), 2);
    }

    private static void submissionQueuesGo() {
        Host host = Host.ready();
        host.addQueue(2);
        for (long number : new long[] {0, 3, 4, -1, 1L << 32 | 1, Long.MIN_VALUE}) {
            host.status("goes: " + number, 0, Cmd.op(4).p(number), 2);
        }
        host.status("a flush, so that queue 0 is before queue 1", 2, Cmd.op(16), 0);
        host.place(1, Cmd.op(20));
        host.place(1, Cmd.op(20));
        Check.due("ring(1, 2)", host.drive.ring(1, 2), 2);
        // queue 3 is not there, so queue 0 is the next
        host.status("goes with what is in it", 0, Cmd.op(4).p(1), 0);
        Check.due("run(9)", host.drive.run(9), 0);
        host.dueCount(5, 0);
        host.dueQueue(1, 0, DoorbellDrive.NONE);
        host.dueQueue(1, 8, 16);
        host.status("made again", 0, Cmd.makeSubmission(1, 64, 5, 2), 0);
        int[] fresh = {0, 0, 0, 5, 2};
        for (int what = 0; what <= 4; what++) {
            host.dueQueue(1, what, fresh[what]);
        }
    }

    private static void memoryStaysWhenAQueueIsMade() {
        Host host = Host.begun();
        host.fill(512, 64, 40);
        host.status("completion queue", 0, Cmd.makeCompletion(1, 512, 16), 0);
        host.status("submission queue", 0, Cmd.makeSubmission(1, 512, 16, 1), 0);
        host.dueMemory(512, 64, 40);
    }

    private static void caching() {
        Host host = Host.ready();
        host.fill(512, 8, 9);
        host.status("write", 1, Cmd.op(17).p(512).x(4), 0);
        for (long p : new long[] {2, -1, 1L << 32, 1L << 32 | 1, Long.MIN_VALUE}) {
            host.status("caching " + p, 0, Cmd.op(5).p(p), 2);
        }
        host.dueCount(1, 1);
        host.result("on, as it was", Cmd.op(5).p(1), 1);
        host.dueBlock(4, true, 0, 0);
        host.result("off", Cmd.op(5).p(0).n(9).q(-1).x(-1), 1);
        host.dueCount(0, 0);
        host.dueCount(1, 0);
        host.dueBlock(4, true, 9, 1);
        host.result("off again", Cmd.op(5).p(0), 0);
        host.status("write through", 1, Cmd.op(17).p(512).x(5), 0);
        host.dueCount(0, 0);
        host.dueBlock(5, true, 9, 1);
        host.result("on", Cmd.op(5).p(1), 0);
        host.status("write", 1, Cmd.op(17).p(512).x(6), 0);
        host.dueCount(0, 1);
        host.dueBlock(6, true, 0, 0);
    }

    private static void report() {
        Host host = Host.ready();
        host.fill(512, 32, 5);
        host.status("write 3", 1, Cmd.op(17).n(3).p(512).q(528).x(0), 0);
        host.status("read 1", 1, Cmd.op(18).p(600).x(0), 0);
        host.status("no such op", 1, Cmd.op(1), 1);
        host.status("n is 2", 0, Cmd.op(6).n(2).p(640), 2);
        host.status("n is 2, before the address is looked at", 0, Cmd.op(6).n(2).p(-1), 2);
        host.status("P is nowhere", 0, Cmd.op(6).p(1024), 4);
        host.fill(639, 10, -50);
        host.status("report; Q and X without meaning", 0, Cmd.op(6).p(640).q(-1).x(-1), 0);
        long[] due = {-50, 64, 4, 4, 1, 3, 0, 0, 0, -41};
        for (int i = 0; i < due.length; i++) {
            Check.due("peek(" + (639 + i) + ")", host.drive.peek(639 + i), due[i]);
        }
        host.status("report again", 0, Cmd.op(6).p(648), 0);
        Check.due("peek(649)", host.drive.peek(649), 5);
        Check.due("peek(650)", host.drive.peek(650), 4);
    }

    private static void reportOverTwoPages() {
        Host host = Host.begun();
        host.fill(512, 64, -50);
        host.status("Q begins no page", 0, Cmd.op(6).p(521).q(561), 4);
        host.status("Q is nowhere", 0, Cmd.op(6).p(521).q(1024), 4);
        host.status("Q is negative", 0, Cmd.op(6).p(521).q(-16), 4);
        host.dueMemory(512, 64, -50);
        host.status("to 525 and 560", 0, Cmd.op(6).p(525).q(560), 0);
        long[] due = {64, 0, 3, 0, 0, 0, 0, 0};
        for (int i = 0; i < 8; i++) {
            int address = i < 3 ? 525 + i : 560 + i - 3;
            Check.due("peek(" + address + ")", host.drive.peek(address), due[i]);
        }
        host.dueMemory(528, 32, -34);
        Check.due("peek(565)", host.drive.peek(565), 3);
        host.status("to 520, up to the end of the page", 0, Cmd.op(6).p(520).q(-1), 0);
        Check.due("peek(520)", host.drive.peek(520), 64);
        Check.due("peek(521)", host.drive.peek(521), 1);
    }

    private static void cached() {
        Host host = Host.ready();
        host.result("none", Cmd.op(7), 0);
        for (int n = 1; n <= 8; n++) {
            host.status("zero", 1, Cmd.op(20).x(n), 0);
            host.result("cached", Cmd.op(7).p(-1).q(-1).x(-1).n(200), Math.min(n, 6));
        }
    }
}
