/**
 * A host with a drive of its own: it writes commands, rings for them, and takes
 * the answers. Queue 0 is at 0, its answers at 256; queue k at 64 k, with 16
 * entries, and its answers at 256 + 16 k.
 */
final class Host {
    static final int SIZE = 16;

    final DoorbellDrive drive = new DoorbellDrive();
    private final int[] tails = new int[4];
    private final int[] heads = new int[4];

    static int base(int queue) {
        return 64 * queue;
    }

    static int answers(int queue) {
        return 256 + 16 * queue;
    }

    static Host off() {
        return new Host();
    }

    static Host begun() {
        Host host = new Host();
        host.begin();
        return host;
    }

    /** With queue 1 beside the admin ones, with interrupts. */
    static Host ready() {
        Host host = begun();
        host.addQueue(1);
        return host;
    }

    void begin() {
        Check.due("begin", drive.begin(base(0), SIZE, answers(0), SIZE), 0);
        for (int q = 0; q < 4; q++) {
            tails[q] = 0;
            heads[q] = 0;
        }
    }

    void addQueue(int queue) {
        status("completion queue " + queue, 0,
            Cmd.makeCompletion(queue, answers(queue), SIZE).flag(), 0);
        status("submission queue " + queue, 0,
            Cmd.makeSubmission(queue, base(queue), SIZE, queue), 0);
        tails[queue] = 0;
        heads[queue] = 0;
    }

    /** Writes a command and rings for it. */
    void place(int queue, Cmd cmd) {
        long[] longs = cmd.longs();
        for (int i = 0; i < 4; i++) {
            drive.poke(base(queue) + 4 * tails[queue] + i, longs[i]);
        }
        tails[queue] = (tails[queue] + 1) % SIZE;
        drive.ring(queue, tails[queue]);
    }

    /** Takes the next answer of a completion queue. */
    long take(int queue) {
        long answer = drive.peek(answers(queue) + heads[queue]);
        heads[queue] = (heads[queue] + 1) % SIZE;
        drive.seen(queue, heads[queue]);
        return answer;
    }

    long send(int queue, Cmd cmd) {
        place(queue, cmd);
        Check.due("run(1)", drive.run(1), 1);
        return take(queue);
    }

    void status(String what, int queue, Cmd cmd, int want) {
        Check.due("status of: " + what, send(queue, cmd) >> 28 & 0xFF, want);
    }

    void result(String what, Cmd cmd, int want) {
        long answer = send(0, cmd);
        Check.due("status of: " + what, answer >> 28 & 0xFF, 0);
        Check.due("result of: " + what, answer >> 40, want);
    }

    /** Pokes longs v, v + 1 .. from an address on. */
    void fill(int address, int longs, long v) {
        for (int i = 0; i < longs; i++) {
            drive.poke(address + i, v + i);
        }
    }

    void dueMemory(int address, int longs, long v) {
        for (int i = 0; i < longs; i++) {
            Check.due("peek(" + (address + i) + ")", drive.peek(address + i), v + i);
        }
    }

    void dueBlock(int block, boolean medium, long v, int step) {
        for (int k = 0; k < 8; k++) {
            Check.due("block(" + block + ", " + k + ", " + medium + ")",
                drive.block(block, k, medium), v + (long) step * k);
        }
    }

    void dueCount(int what, int want) {
        Check.due("count(" + what + ")", drive.count(what), want);
    }

    void dueQueue(int q, int what, int want) {
        Check.due("queue(" + q + ", " + what + ")", drive.queue(q, what), want);
    }
}
