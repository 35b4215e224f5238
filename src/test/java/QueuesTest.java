/** Terms: queues, where they may lie, how they go round, phase and interrupts. */
public final class QueuesTest {
    private static final int BEGIN_SUBMISSION = 0;
    private static final int BEGIN_COMPLETION = 1;
    private static final int OP_COMPLETION = 2;
    private static final int OP_SUBMISSION = 3;
    private static final int WAYS = 4;

    public static void main(String[] args) {
        numbersOfSubmissionQueues();
        numbersOfCompletionQueues();
        adminQueues();
        bases();
        sizes();
        withinMemory();
        overWhatElseLiesThere();
        memoryStays();
        headAndTailAtFirst();
        commandsFromHeadToTail();
        fedByItsTail();
        answersTo();
        full();
        fullWhereverTheHeadIs();
        phaseAtFirst();
        phaseTurns();
        interruptsAreSet();
        interruptsOfEachQueue();
        Check.end();
    }

    private static void numbersOfSubmissionQueues() {
        Check.sentence("QUEUES: SUBMISSION queues 0 to 3, entries of 4 longs");
        Host host = Host.withAllQueues();
        for (int q = -1; q <= 4; q++) {
            boolean there = q >= 0 && q <= 3;
            host.dueQueue(q, 3, there ? 16 : DoorbellDrive.NONE);
            int tail = there ? host.drive.queue(q, 1) : 0;
            Check.due("ring(" + q + ", " + tail + ")", host.drive.ring(q, tail),
                there ? 0 : DoorbellDrive.REFUSED);
        }
        // three commands of 4 longs, one behind the other, up to the end of memory
        Host small = Host.begun(1012, 3, 256, 4);
        for (int i = 0; i < 3; i++) {
            Check.due("answer " + i, small.send(0, Cmd.op(7).id(50 + i)) & 0xFFFF, 50 + i);
            small.dueLong(1012 + 4 * i, 7 | 50 + i << 8);
        }
    }

    private static void numbersOfCompletionQueues() {
        Check.sentence("and COMPLETION queues 0 to 3, entries of one");
        Host host = Host.withAllQueues();
        for (int q = -1; q <= 4; q++) {
            boolean there = q >= 0 && q <= 3;
            host.dueQueue(q, 8, there ? 16 : DoorbellDrive.NONE);
            int head = there ? host.drive.queue(q, 5) : 0;
            Check.due("seen(" + q + ", " + head + ")", host.drive.seen(q, head),
                there ? 0 : DoorbellDrive.REFUSED);
        }
        Host small = Host.begun(0, 4, 1020, 4);
        for (int i = 0; i < 4; i++) {
            small.send(0, Cmd.op(7).id(50 + i));
        }
        for (int i = 0; i < 4; i++) {
            Check.due("the ID in entry " + i, small.drive.peek(1020 + i) & 0xFFFF, 50 + i);
        }
    }

    private static void adminQueues() {
        Check.sentence("those numbered 0 are the ADMIN ones");
        Host host = Host.withAllQueues();
        for (int q = 0; q <= 3; q++) {
            host.status("op 7 in queue " + q, q, Cmd.op(7), q == 0 ? 0 : 1);
            host.status("op 16 in queue " + q, q, Cmd.op(16), q == 0 ? 1 : 0);
        }
    }

    /** Whether a queue of this base and size is made; each way is asked on a new object. */
    private static boolean makes(int way, long base, long size) {
        if (way == BEGIN_SUBMISSION || way == BEGIN_COMPLETION) {
            DoorbellDrive drive = new DoorbellDrive();
            int answer = way == BEGIN_SUBMISSION
                ? drive.begin((int) base, (int) size, 256, 16)
                : drive.begin(0, 16, (int) base, (int) size);
            Check.so("it is made or REFUSED", answer == 0 || answer == DoorbellDrive.REFUSED);
            Check.due("run(0)", drive.run(0), answer == 0 ? 0 : DoorbellDrive.OFF);
            return answer == 0;
        }
        Host host = Host.begun(128, 4, 256, 4);
        Cmd make = Cmd.makeCompletion(1, base, size);
        if (way == OP_SUBMISSION) {
            host.addCompletion(2, 288, 4, false);
            make = Cmd.makeSubmission(1, base, size, 2);
        }
        int status = Host.statusOf(host.send(0, make));
        Check.so("it is made or 2", status == 0 || status == 2);
        host.dueQueue(1, way == OP_SUBMISSION ? 3 : 8,
            status == 0 ? (int) size : DoorbellDrive.NONE);
        return status == 0;
    }

    private static void dueMade(int way, long base, long size, boolean want) {
        Check.due("way " + way + ": a queue at " + base + " of " + size + " is made",
            makes(way, base, size) ? 1 : 0, want ? 1 : 0);
    }

    private static int entryOf(int way) {
        return way == BEGIN_SUBMISSION || way == OP_SUBMISSION ? 4 : 1;
    }

    private static boolean takesLongs(int way) {
        return way == OP_COMPLETION || way == OP_SUBMISSION;
    }

    private static void bases() {
        Check.sentence("Each has a BASE, an address that is a multiple of 4");
        for (int way = 0; way < WAYS; way++) {
            for (int base = -9; base <= 9; base++) {
                dueMade(way, base, 2, base >= 0 && base % 4 == 0);
            }
            for (int base = 511; base <= 517; base++) {
                dueMade(way, base, 16, base % 4 == 0);
            }
            int last = entryOf(way) == 4 ? 1016 : 1020;
            for (int base = 1012; base <= 1030; base++) {
                dueMade(way, base, 2, base <= last && base % 4 == 0);
            }
            dueMade(way, Integer.MAX_VALUE - 3, 2, false);
            dueMade(way, Integer.MIN_VALUE, 2, false);
            if (takesLongs(way)) {
                for (long base : new long[] {1L << 32, 1L << 32 | 4, 1L << 62, -1L << 32,
                    Long.MAX_VALUE - 3, Long.MIN_VALUE, Long.MIN_VALUE + 4}) {
                    dueMade(way, base, 2, false);
                }
            }
        }
    }

    private static void sizes() {
        Check.sentence("a SIZE, 2 to 16 entries");
        for (int way = 0; way < WAYS; way++) {
            for (int size = -3; size <= 20; size++) {
                dueMade(way, 0, size, size >= 2 && size <= 16);
            }
            for (int size : new int[] {32, 256, 258, Integer.MAX_VALUE, Integer.MIN_VALUE,
                Integer.MIN_VALUE + 2, 1 << 30}) {
                dueMade(way, 0, size, false);
            }
            if (takesLongs(way)) {
                for (long size : new long[] {1L << 32 | 2, 1L << 32 | 16, 1L << 62 | 4,
                    Long.MAX_VALUE, Long.MIN_VALUE, Long.MIN_VALUE + 4}) {
                    dueMade(way, 0, size, false);
                }
            }
        }
    }

    private static void withinMemory() {
        Check.sentence("all of them within memory");
        for (int way = 0; way < WAYS; way++) {
            for (int size = 2; size <= 16; size++) {
                int last = (1024 - size * entryOf(way)) / 4 * 4;
                dueMade(way, last - 4, size, true);
                dueMade(way, last, size, true);
                dueMade(way, last + 4, size, false);
            }
        }
        theLastEntriesAreUsed();
    }

    private static void theLastEntriesAreUsed() {
        Host host = Host.begun(960, 16, 256, 16);
        host.addCompletion(1, 1008, 16, false);
        host.addSubmission(1, 64, 16, 1);
        for (int i = 2; i < 16; i++) {
            host.send(0, Cmd.op(7).id(i));
        }
        host.dueLong(1020, 7 | 15 << 8);
        host.dueQueue(0, 0, 0);
        for (int i = 0; i < 16; i++) {
            host.send(1, Cmd.op(16).id(90 + i));
        }
        Check.due("the ID at 1023", host.drive.peek(1023) & 0xFFFF, 105);
        host.dueQueue(1, 6, 0);
    }

    private static void overWhatElseLiesThere() {
        Check.sentence("also over what else lies there");
        DoorbellDrive drive = new DoorbellDrive();
        Check.due("begin(0, 2, 0, 2)", drive.begin(0, 2, 0, 2), 0);
        drive.poke(0, 7 | 0xABCD << 8);
        drive.ring(0, 1);
        Check.due("run(5)", drive.run(5), 1);
        Check.due("peek(0)", drive.peek(0), 0xABCDL | 1 << 20 | 1L << 36);
        Host host = Host.begun();
        host.addCompletion(1, 4, 16, false);
        host.addCompletion(2, 4, 16, false);
        host.addCompletion(3, 256, 16, false);
        host.addSubmission(1, 0, 16, 1);
        host.addSubmission(2, 4, 16, 1);
        host.addSubmission(3, 256, 16, 2);
        for (int q = 1; q <= 3; q++) {
            host.dueQueue(q, 3, 16);
            host.dueQueue(q, 8, 16);
        }
    }

    private static void memoryStays() {
        Check.sentence("MEMORY stays as it is when it is made");
        Host off = Host.off();
        off.fill(448, 80, 40);
        off.begin(448, 16, 512, 16);
        off.dueMemory(448, 80, 40);
        Host host = Host.begun();
        host.fill(511, 66, 40);
        host.addCompletion(1, 512, 16, true);
        host.dueMemory(511, 66, 40);
        host.addSubmission(1, 512, 16, 1);
        host.dueMemory(511, 66, 40);
    }

    private static void headAndTailAtFirst() {
        Check.sentence("a HEAD and a TAIL, places in it, 0 at first");
        Host host = Host.ready();
        host.dueQueue(1, 0, 0);
        host.dueQueue(1, 1, 0);
        host.dueQueue(1, 5, 0);
        host.dueQueue(1, 6, 0);
        host.status("flush", 1, Cmd.op(16), 0);
        host.place(1, Cmd.op(16));
        host.dueRun(9, 1);
        host.dueQueue(1, 0, 2);
        host.dueQueue(1, 1, 2);
        host.dueQueue(1, 5, 1);
        host.dueQueue(1, 6, 2);
        host.status("submission queue 1 goes", 0, Cmd.op(4).p(1), 0);
        host.status("completion queue 1 goes", 0, Cmd.op(3).p(1), 0);
        host.addQueue(1);
        for (int what : new int[] {0, 1, 2, 5, 6}) {
            host.dueQueue(1, what, 0);
        }
        host.drive.stop(false);
        host.begin();
        for (int what : new int[] {0, 1, 2, 5, 6}) {
            host.dueQueue(0, what, 0);
        }
    }

    private static void commandsFromHeadToTail() {
        Check.sentence("A submission queue has commands from its head up to before its tail, round");
        for (int size : new int[] {2, 3, 16}) {
            DoorbellDrive drive = new DoorbellDrive();
            drive.begin(0, size, 256, 16);
            for (int head = 0; head < size; head++) {
                for (int tail : new int[] {head, (head + 1) % size, (head + size - 1) % size,
                    0, size / 2, size - 1}) {
                    drive.ring(0, tail);
                    Check.due("size " + size + ", head " + head + ", tail " + tail,
                        drive.queue(0, 2), (tail - head + size) % size);
                }
                drive.ring(0, (head + 1) % size);
                Check.due("run(9)", drive.run(9), 1);
                Check.due("head", drive.queue(0, 0), (head + 1) % size);
                drive.seen(0, (head + 1) % 16);
            }
        }
        asManyAsItHas();
    }

    /** An empty one, one that has as many as it can, and one that goes round. */
    private static void asManyAsItHas() {
        DoorbellDrive drive = new DoorbellDrive();
        drive.begin(0, 4, 256, 16);
        for (int i = 0; i < 4; i++) {
            drive.poke(4 * i, 7 | 60 + i << 8);
        }
        Check.due("run(9): it is empty", drive.run(9), 0);
        Check.due("ring(0, 3)", drive.ring(0, 3), 3);
        Check.due("run(9)", drive.run(9), 3);
        Check.due("run(9): it is empty", drive.run(9), 0);
        Check.due("ring(0, 2): round", drive.ring(0, 2), 3);
        Check.due("run(9)", drive.run(9), 3);
        int[] order = {60, 61, 62, 63, 60, 61};
        for (int i = 0; i < order.length; i++) {
            Check.due("the ID of answer " + i, drive.peek(256 + i) & 0xFFFF, order[i]);
        }
        Check.due("queue(0, 0)", drive.queue(0, 0), 2);
    }

    private static void fedByItsTail() {
        Check.sentence("it is FED by its tail, which the host tells");
        Host host = Host.begun();
        for (int i = 0; i < 4; i++) {
            host.write(0, Cmd.op(7).id(i).longs());
        }
        host.dueRun(9, 0);
        Check.due("ring(0, 4)", host.drive.ring(0, 4), 4);
        Check.due("ring(0, 1): the others are not told any more", host.drive.ring(0, 1), 1);
        host.dueRun(9, 1);
        Check.due("ring(0, 3)", host.drive.ring(0, 3), 2);
        Check.due("ring(0, 1): none", host.drive.ring(0, 1), 0);
        host.dueRun(9, 0);
        Check.due("ring(0, 0): all but one, round", host.drive.ring(0, 0), 15);
        host.dueCount(2, 1);
    }

    private static void answersTo() {
        Check.sentence("each has a completion queue that it ANSWERS to");
        Host host = Host.begun();
        host.addCompletion(1, 272, 4, true);
        host.addCompletion(3, 304, 4, true);
        host.addSubmission(1, 64, 16, 3);
        host.addSubmission(2, 128, 16, 3);
        host.addSubmission(3, 192, 16, 1);
        int[] to = {0, 3, 3, 1};
        for (int q = 0; q <= 3; q++) {
            host.dueQueue(q, 4, to[q]);
        }
        host.drive.interrupts(-1);
        for (int q = 1; q <= 3; q++) {
            host.place(q, Cmd.op(16).id(70 + q));
        }
        host.dueRun(9, 3);
        int[] places = {304, 305, 272};
        for (int q = 1; q <= 3; q++) {
            host.dueLong(places[q - 1], 70 + q | q << 16 | 1 << 20 | 1L << 36);
        }
        host.dueInterrupts(0, 10);
    }

    private static void full() {
        Check.sentence("a completion queue is FULL if its tail, 1 on, would be its head, "
            + "which the host tells");
        for (int size : new int[] {2, 3, 4, 15, 16}) {
            DoorbellDrive drive = new DoorbellDrive();
            drive.begin(0, 16, 256, size);
            drive.ring(0, 15);
            Check.due("run: one less than would fill it", drive.run(size - 2), size - 2);
            Check.due("run: the one that fills it", drive.run(1), 1);
            Check.due("tail of " + size, drive.queue(0, 6), size - 1);
            drive.ring(0, 14);
            Check.due("run: it is FULL", drive.run(1), 0);
            Check.due("head", drive.queue(0, 0), size - 1);
            Check.due("tail", drive.queue(0, 6), size - 1);
            Check.due("seen(0, 0): nothing new", drive.seen(0, 0), size - 1);
            Check.due("run: it is FULL", drive.run(200), 0);
        }
    }

    private static void fullWhereverTheHeadIs() {
        for (int size : new int[] {2, 3, 16}) {
            DoorbellDrive drive = new DoorbellDrive();
            drive.begin(0, 16, 256, size);
            drive.ring(0, 15);
            Check.due("run(200)", drive.run(200), size - 1);
            for (int i = 1; i <= 2 * size; i++) {
                drive.ring(0, (drive.queue(0, 0) + 15) % 16);
                Check.due("seen: one", drive.seen(0, i % size), size - 2);
                Check.due("run: one, then it is FULL", drive.run(200), 1);
                Check.due("tail", drive.queue(0, 6), (i + size - 1) % size);
            }
        }
    }

    private static void phaseAtFirst() {
        Check.sentence("PHASE of a completion queue: 1 at first");
        Host host = Host.begun();
        host.dueQueue(0, 7, 1);
        host.addCompletion(1, 272, 2, false);
        host.addSubmission(1, 64, 16, 1);
        host.dueQueue(1, 7, 1);
        host.status("flush", 1, Cmd.op(16), 0);
        host.dueQueue(1, 7, 1);
        host.status("flush", 1, Cmd.op(16), 0);
        host.dueQueue(1, 7, 0);
        host.status("it goes", 0, Cmd.op(4).p(1), 0);
        host.status("it goes", 0, Cmd.op(3).p(1), 0);
        host.addCompletion(1, 272, 2, false);
        host.dueQueue(1, 7, 1);
        beginPutsItBack();
    }

    private static void beginPutsItBack() {
        Host host = Host.begun(0, 4, 256, 2);
        host.send(0, Cmd.op(7));
        host.send(0, Cmd.op(7));
        host.dueQueue(0, 7, 0);
        host.drive.stop(true);
        host.begin(0, 4, 256, 2);
        host.dueQueue(0, 7, 1);
        Check.due("the phase of the answer", host.send(0, Cmd.op(7)) >> 36 & 1, 1);
    }

    private static void phaseTurns() {
        Check.sentence("it turns whenever its tail comes round to 0");
        for (int size : new int[] {2, 3, 16}) {
            Host host = Host.begun(0, 16, 256, size);
            int phase = 1;
            for (int i = 1; i <= 2 * size + 1; i++) {
                long answer = host.send(0, Cmd.op(7));
                Check.due("the phase of answer " + i + " of " + size, answer >> 36 & 1, phase);
                phase = i % size == 0 ? 1 - phase : phase;
                host.dueQueue(0, 6, i % size);
                host.dueQueue(0, 7, phase);
            }
        }
        eachQueueHasItsOwnPhase();
    }

    private static void eachQueueHasItsOwnPhase() {
        Host host = Host.begun();
        host.addCompletion(1, 272, 2, false);
        host.addCompletion(2, 288, 3, false);
        host.addSubmission(1, 64, 16, 1);
        host.addSubmission(2, 128, 16, 2);
        int[] one = {1, 0, 0, 1, 1, 0};
        int[] two = {1, 1, 0, 0, 0, 1};
        for (int i = 0; i < 6; i++) {
            host.status("flush", 1, Cmd.op(16), 0);
            host.status("flush", 2, Cmd.op(16), 0);
            host.dueQueue(1, 7, one[i]);
            host.dueQueue(2, 7, two[i]);
            host.dueQueue(0, 7, 1);
        }
    }

    private static void interruptsAreSet() {
        Check.sentence("set by an answer in it, if it was made with interrupts (queue 0 is)");
        Host host = Host.begun();
        host.dueInterrupts(0, 0);
        host.place(0, Cmd.op(7));
        host.dueInterrupts(0, 0);
        host.dueRun(1, 1);
        host.dueInterrupts(0, 1);
        host.take(0);
        host.dueInterrupts(0, 1);
        host.addCompletion(1, 272, 4, false);
        host.addCompletion(2, 288, 4, true);
        host.addSubmission(1, 64, 4, 1);
        host.addSubmission(2, 128, 4, 2);
        host.dueInterrupts(-1, 1);
        host.status("without interrupts", 1, Cmd.op(16), 0);
        host.dueInterrupts(0, 0);
        host.status("with interrupts", 2, Cmd.op(16), 0);
        host.dueInterrupts(-1, 4);
        host.status("any status sets it", 2, Cmd.op(0), 1);
        host.dueInterrupts(-1, 4);
        host.status("no status sets it", 1, Cmd.op(0), 1);
        host.dueInterrupts(0, 0);
    }

    private static void interruptsOfEachQueue() {
        Check.sentence("INTERRUPTS: bits 0 to 3, one of each completion queue");
        Host host = Host.withAllQueues();
        host.dueInterrupts(-1, 1);
        for (int q = 0; q <= 3; q++) {
            host.status("queue " + q, q, Cmd.op(q == 0 ? 7 : 16), 0);
            host.dueInterrupts(-1, 1 << q);
        }
        for (int q = 0; q <= 3; q++) {
            host.status("queue " + q, q, Cmd.op(q == 0 ? 7 : 16), 0);
            host.dueInterrupts(0, (2 << q) - 1);
        }
    }
}
