/**
 * A host with a drive of its own: it writes commands, rings for them, and takes
 * the answers. If nothing else is told, queue k is at 64 k, its answers at
 * 256 + 16 k, both with 16 entries: from 320 on memory is free.
 */
final class Host {
    static final int SIZE = 16;

    final DoorbellDrive drive = new DoorbellDrive();
    private final int[] bases = new int[4];
    private final int[] sizes = new int[4];
    private final int[] answersTo = new int[4];
    private final int[] tails = new int[4];
    private final int[] answerBases = new int[4];
    private final int[] answerSizes = new int[4];
    private final int[] heads = new int[4];

    static int base(int queue) {
        return 64 * queue;
    }

    static int answers(int queue) {
        return 256 + 16 * queue;
    }

    static Host off() {
        return new Host();
    }

    static Host begun() {
        Host host = new Host();
        host.begin();
        return host;
    }

    static Host begun(int base, int size, int answers, int answersSize) {
        Host host = new Host();
        host.begin(base, size, answers, answersSize);
        return host;
    }

    /** With queue 1 beside the admin ones, with interrupts. */
    static Host ready() {
        Host host = begun();
        host.addQueue(1);
        return host;
    }

    /** With queues 0 to 3, all with interrupts. */
    static Host withAllQueues() {
        Host host = ready();
        host.addQueue(2);
        host.addQueue(3);
        return host;
    }

    void begin() {
        begin(base(0), SIZE, answers(0), SIZE);
    }

    void begin(int base, int size, int answers, int answersSize) {
        Check.due("begin(" + base + ", " + size + ", " + answers + ", " + answersSize + ")",
            drive.begin(base, size, answers, answersSize), 0);
        noteCompletion(0, answers, answersSize);
        noteSubmission(0, base, size, 0);
    }

    private void noteCompletion(int queue, int base, int size) {
        answerBases[queue] = base;
        answerSizes[queue] = size;
        heads[queue] = 0;
    }

    private void noteSubmission(int queue, int base, int size, int completion) {
        bases[queue] = base;
        sizes[queue] = size;
        answersTo[queue] = completion;
        tails[queue] = 0;
    }

    void addQueue(int queue) {
        addCompletion(queue, answers(queue), SIZE, true);
        addSubmission(queue, base(queue), SIZE, queue);
    }

    void addCompletion(int queue, int base, int size, boolean withInterrupts) {
        Cmd make = Cmd.makeCompletion(queue, base, size);
        status("completion queue " + queue, 0, withInterrupts ? make.flag() : make, 0);
        noteCompletion(queue, base, size);
    }

    void addSubmission(int queue, int base, int size, int completion) {
        status("submission queue " + queue, 0,
            Cmd.makeSubmission(queue, base, size, completion), 0);
        noteSubmission(queue, base, size, completion);
    }

    /** Writes a command behind those that were written before. */
    void write(int queue, long... longs) {
        for (int i = 0; i < 4; i++) {
            drive.poke(bases[queue] + 4 * tails[queue] + i, longs[i]);
        }
        tails[queue] = (tails[queue] + 1) % sizes[queue];
    }

    /** Rings for all that was written. */
    void ring(int queue) {
        Check.so("ring(" + queue + ", " + tails[queue] + ") is taken",
            drive.ring(queue, tails[queue]) > 0);
    }

    void place(int queue, Cmd cmd) {
        write(queue, cmd.longs());
        ring(queue);
    }

    /** Takes the next answer of a completion queue. */
    long take(int completion) {
        long answer = drive.peek(answerBases[completion] + heads[completion]);
        heads[completion] = (heads[completion] + 1) % answerSizes[completion];
        Check.so("seen(" + completion + ", " + heads[completion] + ") is taken",
            drive.seen(completion, heads[completion]) >= 0);
        return answer;
    }

    long sendLongs(int queue, long... longs) {
        write(queue, longs);
        ring(queue);
        dueRun(1, 1);
        return take(answersTo[queue]);
    }

    long send(int queue, Cmd cmd) {
        return sendLongs(queue, cmd.longs());
    }

    static int statusOf(long answer) {
        return (int) (answer >> 28 & 0xFF);
    }

    void status(String what, int queue, Cmd cmd, int want) {
        Check.due("status of: " + what, statusOf(send(queue, cmd)), want);
    }

    void result(String what, Cmd cmd, int want) {
        long answer = send(0, cmd);
        Check.due("status of: " + what, statusOf(answer), 0);
        Check.due("result of: " + what, answer >> 40, want);
    }

    /** Pokes longs v, v + 1 .. from an address on. */
    void fill(int address, int longs, long v) {
        for (int i = 0; i < longs; i++) {
            drive.poke(address + i, v + i);
        }
    }

    /** Pokes the entries of a list, or longs of any other kind. */
    void pokeAll(int address, long... longs) {
        for (int i = 0; i < longs.length; i++) {
            drive.poke(address + i, longs[i]);
        }
    }

    void dueRun(int n, int want) {
        Check.due("run(" + n + ")", drive.run(n), want);
    }

    void dueLong(int address, long want) {
        Check.due("peek(" + address + ")", drive.peek(address), want);
    }

    void dueMemory(int address, int longs, long v) {
        for (int i = 0; i < longs; i++) {
            dueLong(address + i, v + i);
        }
    }

    void dueBlock(int block, boolean medium, long v, int step) {
        for (int k = 0; k < 8; k++) {
            Check.due("block(" + block + ", " + k + ", " + medium + ")",
                drive.block(block, k, medium), v + (long) step * k);
        }
    }

    /** The first long of a block, on the medium and as a read would find it. */
    void dueFirstLong(int block, long medium, long found) {
        Check.due("block(" + block + ", 0, true)", drive.block(block, 0, true), medium);
        Check.due("block(" + block + ", 0, false)", drive.block(block, 0, false), found);
    }

    void dueCount(int what, int want) {
        Check.due("count(" + what + ")", drive.count(what), want);
    }

    void dueQueue(int q, int what, int want) {
        Check.due("queue(" + q + ", " + what + ")", drive.queue(q, what), want);
    }

    void dueInterrupts(int mask, int want) {
        Check.due("interrupts(" + mask + ")", drive.interrupts(mask), want);
    }
}
