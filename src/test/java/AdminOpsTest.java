/** Terms: the ops of submission queue 0. */
public final class AdminOpsTest {
    private static final int FREE = 512;
    private static final long[] NO_NUMBERS = {
        0, -1, -2, 4, 5, 1L << 32 | 1, Long.MAX_VALUE, Long.MIN_VALUE, Long.MIN_VALUE | 1
    };

    public static void main(String[] args) {
        completionQueueIsMade();
        baseAndSizeOfACompletionQueue();
        withInterrupts();
        submissionQueueIsMade();
        whatItAnswersTo();
        completionQueueGoes();
        completionQueueThatIsAnsweredTo();
        bitOfInterruptsStays();
        submissionQueueGoes();
        cachingOffAndOn();
        reportOfOneBlock();
        reportOverTwoPages();
        whatIsReported();
        reportedBefore();
        cached();
        Check.end();
    }

    private static void completionQueueIsMade() {
        Check.sentence("OPS of submission queue 0: 1: completion queue P (1 to 3, "
            + "that is not there) is made");
        Host host = Host.begun();
        for (long number : NO_NUMBERS) {
            host.status("number " + number, 0, Cmd.makeCompletion(number, 304, 4), 2);
        }
        for (int q = 1; q <= 3; q++) {
            host.dueQueue(q, 8, DoorbellDrive.NONE);
            host.status("number " + q, 0, Cmd.makeCompletion(q, 304, 4 + q), 0);
            int[] fresh = {0, 0, 1, 4 + q};
            for (int what = 5; what <= 8; what++) {
                host.dueQueue(q, what, fresh[what - 5]);
            }
            host.dueQueue(q, 0, DoorbellDrive.NONE);
            host.status(q + " is there", 0, Cmd.makeCompletion(q, 304, 2), 2);
            host.dueQueue(q, 8, 4 + q);
        }
        host.status("3 goes", 0, Cmd.op(3).p(3), 0);
        host.status("3 is not there", 0, Cmd.makeCompletion(3, 304, 2), 0);
        host.dueQueue(3, 8, 2);
    }

    private static void baseAndSizeOfACompletionQueue() {
        Check.sentence("base Q, size X (2 else)");
        Host host = Host.begun();
        long[] noBases = {-4, 1, 2, 3, 1009, 1012, 1016, 1020, 1024, 1L << 32, Long.MIN_VALUE};
        for (long base : noBases) {
            host.status("base " + base, 0, Cmd.makeCompletion(1, base, 13), 2);
        }
        for (long size : new long[] {-1, 0, 1, 17, 18, 1L << 32 | 4, Long.MAX_VALUE}) {
            host.status("size " + size, 0, Cmd.makeCompletion(1, 304, size), 2);
        }
        host.dueQueue(1, 8, DoorbellDrive.NONE);
        host.status("the least base", 0, Cmd.makeCompletion(1, 0, 2), 0);
        host.status("the last base of 13", 0, Cmd.makeCompletion(2, 1008, 13), 0);
        host.status("the greatest size", 0, Cmd.makeCompletion(3, 1008, 16), 0);
        host.dueQueue(1, 8, 2);
        host.dueQueue(2, 8, 13);
        host.dueQueue(3, 8, 16);
        host.status("3 goes", 0, Cmd.op(3).p(3), 0);
        host.addCompletion(3, 304, 2, false);
        host.addSubmission(1, 64, 4, 3);
        Check.due("its answers are at its base", host.send(1, Cmd.op(16).id(6)),
            6 | 1 << 16 | 1 << 20 | 1L << 36);
    }

    private static void withInterrupts() {
        Check.sentence("FLAG: with interrupts.");
        for (int q = 1; q <= 3; q++) {
            Host host = Host.begun();
            host.addCompletion(q, Host.answers(q), 4, false);
            host.addSubmission(q, Host.base(q), 4, q);
            host.drive.interrupts(-1);
            host.status("no FLAG", q, Cmd.op(16), 0);
            host.dueInterrupts(-1, 0);
            host.status("goes", 0, Cmd.op(4).p(q), 0);
            host.status("goes", 0, Cmd.op(3).p(q), 0);
            host.addCompletion(q, Host.answers(q), 4, true);
            host.addSubmission(q, Host.base(q), 4, q);
            host.dueInterrupts(-1, 1);
            host.status("FLAG", q, Cmd.op(16), 0);
            host.dueInterrupts(-1, 1 << q);
        }
    }

    private static void submissionQueueIsMade() {
        Check.sentence("2: submission queue P (1 to 3, not there) is made, base Q, size X");
        Host host = Host.begun();
        host.addCompletion(2, 288, 4, true);
        for (long number : NO_NUMBERS) {
            host.status("number " + number, 0, Cmd.makeSubmission(number, 64, 4, 2), 2);
        }
        for (int q = 1; q <= 3; q++) {
            host.dueQueue(q, 3, DoorbellDrive.NONE);
            host.status("number " + q, 0, Cmd.makeSubmission(q, 64, 4 + q, 2), 0);
            int[] fresh = {0, 0, 0, 4 + q, 2};
            for (int what = 0; what <= 4; what++) {
                host.dueQueue(q, what, fresh[what]);
            }
            host.status(q + " is there", 0, Cmd.makeSubmission(q, 64, 2, 2), 2);
            host.dueQueue(q, 3, 4 + q);
        }
        host.status("3 goes", 0, Cmd.op(4).p(3), 0);
        host.dueQueue(3, 3, DoorbellDrive.NONE);
        for (long base : new long[] {-4, 2, 63, 964, 1020, 1024, 1L << 40}) {
            host.status("base " + base, 0, Cmd.makeSubmission(3, base, 16, 2), 2);
        }
        for (long size : new long[] {-1, 0, 1, 17, 1L << 32 | 4, Long.MAX_VALUE}) {
            host.status("size " + size, 0, Cmd.makeSubmission(3, 64, size, 2), 2);
        }
        host.dueQueue(3, 3, DoorbellDrive.NONE);
        host.status("the last base of 16", 0, Cmd.makeSubmission(3, 960, 16, 2), 0);
        host.dueQueue(3, 3, 16);
    }

    private static void whatItAnswersTo() {
        Check.sentence("answers to completion queue n - 1, which is there, 1 to 3.");
        Host host = Host.begun();
        for (int to = 0; to <= 3; to++) {
            host.status("none but 0 is there", 0, Cmd.makeSubmission(1, 64, 4, to), 2);
        }
        host.addCompletion(1, 272, 4, true);
        host.addCompletion(3, 304, 4, true);
        for (int to : new int[] {0, 2, 4, 5, 7, 254, 255}) {
            host.status("answers to " + to, 0, Cmd.makeSubmission(1, 64, 4, to), 2);
        }
        host.dueQueue(1, 4, DoorbellDrive.NONE);
        host.status("answers to 1", 0, Cmd.makeSubmission(1, 64, 4, 1), 0);
        host.status("answers to 3", 0, Cmd.makeSubmission(2, 64, 4, 3), 0);
        host.addCompletion(2, 288, 4, true);
        host.status("answers to 2", 0, Cmd.makeSubmission(3, 64, 4, 2), 0);
        int[] to = {0, 1, 3, 2};
        for (int q = 0; q <= 3; q++) {
            host.dueQueue(q, 4, to[q]);
        }
        host.status("3 goes", 0, Cmd.op(4).p(3), 0);
        host.status("completion queue 2 goes", 0, Cmd.op(3).p(2), 0);
        host.status("2 is not there any more", 0, Cmd.makeSubmission(3, 64, 4, 2), 2);
    }

    private static void completionQueueGoes() {
        Check.sentence("3: completion queue P, 1 to 3, there");
        Host host = Host.begun();
        for (int q = 1; q <= 3; q++) {
            host.addCompletion(q, Host.answers(q), 4, true);
        }
        for (long number : NO_NUMBERS) {
            host.status("goes: " + number, 0, Cmd.op(3).p(number), 2);
        }
        for (int q = 0; q <= 3; q++) {
            host.dueQueue(q, 8, q == 0 ? 16 : 4);
        }
        for (int q = 1; q <= 3; q++) {
            host.status("goes: " + q, 0, Cmd.op(3).p(q), 0);
            for (int what = 5; what <= 8; what++) {
                host.dueQueue(q, what, DoorbellDrive.NONE);
            }
            Check.due("seen", host.drive.seen(q, 0), DoorbellDrive.REFUSED);
            host.status("it is not there", 0, Cmd.op(3).p(q), 2);
        }
        host.dueQueue(0, 8, 16);
    }

    private static void completionQueueThatIsAnsweredTo() {
        Check.sentence("no submission queue answers to it, goes");
        Host host = Host.begun();
        host.addCompletion(1, 272, 4, true);
        host.addCompletion(2, 288, 4, true);
        host.addSubmission(1, 64, 4, 2);
        host.addSubmission(3, 192, 4, 2);
        host.status("two answer to 2", 0, Cmd.op(3).p(2), 2);
        host.dueQueue(2, 8, 4);
        host.status("none answers to 1", 0, Cmd.op(3).p(1), 0);
        host.dueQueue(1, 8, DoorbellDrive.NONE);
        host.status("submission queue 1 goes", 0, Cmd.op(4).p(1), 0);
        host.status("3 answers to 2", 0, Cmd.op(3).p(2), 2);
        host.status("submission queue 3 goes", 0, Cmd.op(4).p(3), 0);
        host.status("none answers to 2", 0, Cmd.op(3).p(2), 0);
        host.dueQueue(2, 8, DoorbellDrive.NONE);
        answersThatWereNotSeen();
    }

    private static void answersThatWereNotSeen() {
        Host host = Host.ready();
        host.place(1, Cmd.op(16));
        host.dueRun(1, 1);
        host.status("submission queue 1 goes", 0, Cmd.op(4).p(1), 0);
        host.status("with an answer in it", 0, Cmd.op(3).p(1), 0);
        host.addCompletion(1, 272, 4, true);
        host.dueQueue(1, 6, 0);
    }

    private static void bitOfInterruptsStays() {
        Check.sentence("(its bit of INTERRUPTS stays)");
        for (int q = 1; q <= 3; q++) {
            Host host = Host.begun();
            host.addQueue(q);
            host.status("flush", q, Cmd.op(16), 0);
            host.status("submission queue goes", 0, Cmd.op(4).p(q), 0);
            host.dueInterrupts(1, 1 | 1 << q);
            host.status("completion queue goes", 0, Cmd.op(3).p(q), 0);
            host.dueInterrupts(1, 1 | 1 << q);
            host.dueInterrupts(0, 1 << q);
            host.addCompletion(q, 272, 4, false);
            host.dueInterrupts(1 << q, 1 | 1 << q);
            host.dueInterrupts(0, 1);
        }
        Host host = Host.begun();
        host.addCompletion(1, 272, 4, true);
        host.status("goes without an answer", 0, Cmd.op(3).p(1), 0);
        host.dueInterrupts(0, 1);
    }

    private static void submissionQueueGoes() {
        Check.sentence("4: submission queue P, 1 to 3, there, goes, with what is in it");
        Host host = Host.ready();
        host.addQueue(2);
        for (long number : NO_NUMBERS) {
            host.status("goes: " + number, 0, Cmd.op(4).p(number), 2);
        }
        host.status("goes: 3, not there", 0, Cmd.op(4).p(3), 2);
        host.status("a flush, so that queue 0 is before queue 1", 2, Cmd.op(16), 0);
        host.place(1, Cmd.op(20));
        host.place(1, Cmd.op(20));
        host.dueQueue(1, 2, 2);
        host.status("goes", 0, Cmd.op(4).p(1), 0);
        host.dueRun(9, 0);
        host.dueCount(5, 0);
        for (int what = 0; what <= 4; what++) {
            host.dueQueue(1, what, DoorbellDrive.NONE);
        }
        Check.due("ring(1, 2)", host.drive.ring(1, 2), DoorbellDrive.REFUSED);
        host.dueQueue(1, 8, 16);
        host.status("it is not there", 0, Cmd.op(4).p(1), 2);
        host.addSubmission(1, 64, 5, 2);
        int[] fresh = {0, 0, 0, 5, 2};
        for (int what = 0; what <= 4; what++) {
            host.dueQueue(1, what, fresh[what]);
        }
        host.dueRun(9, 0);
        eachNumberGoes();
    }

    private static void eachNumberGoes() {
        Host host = Host.withAllQueues();
        for (int q = 3; q >= 1; q--) {
            host.status("goes: " + q, 0, Cmd.op(4).p(q), 0);
            for (int other = 0; other <= 3; other++) {
                host.dueQueue(other, 3, other < q ? 16 : DoorbellDrive.NONE);
            }
        }
    }

    private static void cachingOffAndOn() {
        Check.sentence("5: caching, P 0 off (FLUSHED then), 1 on: RESULT what it was.");
        Host host = Host.ready();
        host.fill(FREE, 8, 9);
        host.status("write", 1, Cmd.op(17).p(FREE).x(4), 0);
        for (long p : new long[] {-1, 2, 3, 1L << 32, 1L << 32 | 1, Long.MIN_VALUE}) {
            host.status("caching " + p, 0, Cmd.op(5).p(p), 2);
        }
        host.dueCount(1, 1);
        host.result("on, as it was", Cmd.op(5).p(1), 1);
        host.dueCount(0, 1);
        host.dueBlock(4, true, 0, 0);
        host.result("off", Cmd.op(5).p(0), 1);
        host.dueCount(0, 0);
        host.dueCount(1, 0);
        host.dueBlock(4, true, 9, 1);
        host.result("off, as it was", Cmd.op(5).p(0), 0);
        host.dueCount(1, 0);
        host.status("write through", 1, Cmd.op(17).p(FREE).x(5), 0);
        host.dueCount(0, 0);
        host.dueBlock(5, true, 9, 1);
        host.result("on", Cmd.op(5).p(1), 0);
        host.dueCount(1, 1);
        host.status("write", 1, Cmd.op(17).p(FREE).x(6), 0);
        host.dueCount(0, 1);
        host.dueBlock(6, true, 0, 0);
        offWithAFullCache();
    }

    private static void offWithAFullCache() {
        Host host = Host.ready();
        host.fill(FREE, 16, 1);
        host.pokeAll(640, FREE, FREE);
        host.status("6 blocks", 1, Cmd.op(17).n(6).p(FREE).q(640).x(58), 0);
        host.dueCount(0, 6);
        host.dueFirstLong(58, 0, 1);
        host.result("off", Cmd.op(5).p(0), 1);
        host.dueCount(0, 0);
        for (int i = 0; i < 6; i++) {
            host.dueBlock(58 + i, true, i % 2 == 0 ? 1 : 9, 1);
        }
    }

    private static void reportOfOneBlock() {
        Check.sentence("6: the first long of the DATA of one block (n is 1, else 2) becomes 64");
        Host host = Host.begun();
        host.fill(FREE - 1, 10, -50);
        for (int n : new int[] {2, 3, 64, 128, 256}) {
            host.status("n is " + n, 0, Cmd.op(6).n(n).p(FREE), 2);
        }
        host.dueMemory(FREE - 1, 10, -50);
        host.status("n is 1", 0, Cmd.op(6).n(1).p(FREE), 0);
        host.dueLong(FREE - 1, -50);
        host.dueLong(FREE, 64);
        host.dueLong(FREE + 8, -41);
        for (long p : new long[] {-1, 1024, 1L << 32, Long.MIN_VALUE}) {
            host.status("P " + p, 0, Cmd.op(6).p(p), 4);
        }
        host.status("the last longs of memory", 0, Cmd.op(6).p(1016), 0);
        host.dueLong(1016, 64);
    }

    private static void reportOverTwoPages() {
        Host host = Host.begun();
        host.fill(FREE, 64, -50);
        for (long q : new long[] {-16, 561, 1024}) {
            host.status("Q " + q, 0, Cmd.op(6).p(521).q(q), 4);
        }
        host.dueMemory(FREE, 64, -50);
        host.status("to 525 and 560", 0, Cmd.op(6).p(525).q(560), 0);
        long[] due = {64, 0, 3, 0, 0, 0, 0, 0};
        for (int i = 0; i < 8; i++) {
            host.dueLong(i < 3 ? 525 + i : 560 + i - 3, due[i]);
        }
        host.dueMemory(528, 32, -34);
        host.dueLong(565, 3);
        host.status("to 520, up to the end of the page", 0, Cmd.op(6).p(520).q(-1), 0);
        host.dueLong(520, 64);
        host.dueLong(521, 1);
        host.dueLong(519, -43);
    }

    private static void dueReport(Host host, long... due) {
        host.fill(640, 8, -9);
        host.status("report", 0, Cmd.op(6).p(640), 0);
        for (int i = 0; i < 8; i++) {
            host.dueLong(640 + i, i == 0 ? 64 : i <= 4 ? due[i - 1] : 0);
        }
    }

    private static void whatIsReported() {
        Check.sentence("the others how many commands were done before with status 0, "
            + "how many with others, how many blocks were read (by 18), "
            + "how many stored (by 17, 20, 21), and 0s");
        Host host = Host.ready();
        // no long is 0, so that nothing of what moved before may be left in a report
        host.fill(FREE, 32, 70);
        dueReport(host, 2, 0, 0, 0);
        host.status("write 3", 1, Cmd.op(17).n(3).p(FREE).q(528).x(0), 0);
        host.status("no such op", 1, Cmd.op(1), 1);
        dueReport(host, 4, 1, 0, 3);
        host.status("read 2", 1, Cmd.op(18).n(2).p(FREE).x(0), 0);
        host.status("compare 2", 1, Cmd.op(19).n(2).p(FREE).x(0), 0);
        host.status("zero 5", 1, Cmd.op(20).n(5).x(0), 0);
        dueReport(host, 8, 1, 2, 8);
        host.status("compare and write 1", 1, Cmd.op(21).p(544).q(FREE).x(0), 0);
        dueReport(host, 10, 1, 2, 9);
        host.drive.poke(FREE, 1);
        host.status("not the same", 1, Cmd.op(21).p(FREE).q(FREE).x(0), 5);
        host.status("not the same", 1, Cmd.op(19).p(FREE).x(0), 5);
        host.status("no such block", 1, Cmd.op(18).p(FREE).x(64), 3);
        host.status("no such page", 1, Cmd.op(17).p(-1).x(0), 4);
        dueReport(host, 11, 5, 2, 9);
        host.drive.stop(true);
        host.begin();
        dueReport(host, 12, 5, 2, 9);
    }

    private static void reportedBefore() {
        Host host = Host.begun();
        host.place(0, Cmd.op(6).p(FREE));
        host.place(0, Cmd.op(0));
        host.place(0, Cmd.op(6).p(FREE + 8));
        host.place(0, Cmd.op(6).n(2).p(FREE + 16));
        host.place(0, Cmd.op(6).p(FREE + 24));
        host.dueRun(9, 5);
        int[] well = {0, 1, 0, 2};
        int[] otherwise = {0, 1, 0, 2};
        for (int i = 0; i < 4; i++) {
            host.dueLong(FREE + 8 * i, i == 2 ? 0 : 64);
            host.dueLong(FREE + 8 * i + 1, well[i]);
            host.dueLong(FREE + 8 * i + 2, otherwise[i]);
        }
    }

    private static void cached() {
        Check.sentence("7: RESULT: how many blocks are in the cache.");
        Host host = Host.ready();
        host.result("none", Cmd.op(7), 0);
        for (int n = 1; n <= 8; n++) {
            host.status("zero", 1, Cmd.op(20).x(n), 0);
            host.result("cached", Cmd.op(7), Math.min(n, 6));
        }
        host.status("one of them again", 1, Cmd.op(20).x(8), 0);
        host.result("cached", Cmd.op(7), 6);
        host.status("flush", 1, Cmd.op(16), 0);
        host.result("none", Cmd.op(7), 0);
    }
}
