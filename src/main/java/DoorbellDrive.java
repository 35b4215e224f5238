import java.util.Arrays;

/**
 * A drive behind queues in the host's memory: commands are put there and rung
 * for, taken in turn, carried out by way of lists of pages, and answered with
 * entries whose phase turns; it may lose its power.
 *
 * All rows are made in constructors and used again: no call makes an object.
 */
public final class DoorbellDrive {
    public static final int REFUSED = -1, NONE = -2, OFF = -3;

    private static final int QUEUES = 4;
    private static final int MOST_COMMANDS_A_RUN = 200;

    private static final int DONE = 0;
    private static final int NO_SUCH_OP = 1;
    private static final int BAD_FIELD = 2;
    private static final int NO_SUCH_BLOCK = 3;
    private static final int BAD_ADDRESS = 4;
    private static final int NOT_SAME = 5;

    private static final int OP_MAKE_COMPLETION = 1;
    private static final int OP_MAKE_SUBMISSION = 2;
    private static final int OP_DROP_COMPLETION = 3;
    private static final int OP_DROP_SUBMISSION = 4;
    private static final int OP_CACHING = 5;
    private static final int OP_REPORT = 6;
    private static final int OP_CACHED = 7;
    private static final int OP_FLUSH = 16;
    private static final int OP_WRITE = 17;
    private static final int OP_READ = 18;
    private static final int OP_COMPARE = 19;
    private static final int OP_ZERO = 20;
    private static final int OP_COMPARE_AND_WRITE = 21;

    private final Memory memory;
    private final Disk disk;
    private final Submission[] submissions;
    private final Completion[] completions;
    private final Command command;
    private final Data data;
    private final long[] row;

    private boolean on;
    private int interruptBits;
    private int turn;
    private int result;
    private int doneWell;
    private int doneOtherwise;
    private int blocksRead;
    private int blocksStored;

    public DoorbellDrive() {
        memory = new Memory();
        disk = new Disk();
        submissions = new Submission[QUEUES];
        completions = new Completion[QUEUES];
        for (int q = 0; q < QUEUES; q++) {
            submissions[q] = new Submission();
            completions[q] = new Completion();
        }
        command = new Command();
        data = new Data();
        row = new long[Disk.BLOCK];
    }

    public long peek(int address) {
        return memory.at(address);
    }

    public int poke(int address, long v) {
        if (!Memory.holds(address)) {
            return REFUSED;
        }
        memory.put(address, v);
        return 0;
    }

    public int begin(int base, int size, int answers, int answersSize) {
        if (!Submission.fits(base, size) || !Completion.fits(answers, answersSize)) {
            return REFUSED;
        }
        if (on) {
            return NONE;
        }
        on = true;
        interruptBits = 0;
        turn = 0;
        completions[0].make(answers, answersSize, true);
        submissions[0].make(base, size, 0);
        return 0;
    }

    public int stop(boolean power) {
        if (!on) {
            return OFF;
        }
        int cached = disk.cachedCount();
        if (power) {
            disk.lose();
        } else {
            disk.flush();
        }
        for (int q = 0; q < QUEUES; q++) {
            submissions[q].drop();
            completions[q].drop();
        }
        on = false;
        return cached;
    }

    public int ring(int queue, int tail) {
        if (!on) {
            return OFF;
        }
        if (!hasSubmission(queue) || !submissions[queue].hasPlace(tail)) {
            return REFUSED;
        }
        submissions[queue].tail = tail;
        return submissions[queue].held();
    }

    public int seen(int queue, int head) {
        if (!on) {
            return OFF;
        }
        if (!hasCompletion(queue) || !completions[queue].reaches(head)) {
            return REFUSED;
        }
        completions[queue].head = head;
        return completions[queue].held();
    }

    public int run(int n) {
        if (!on) {
            return OFF;
        }
        if (n < 0 || n > MOST_COMMANDS_A_RUN) {
            return REFUSED;
        }
        for (int done = 0; done < n; done++) {
            int q = nextReady();
            if (q == NONE) {
                return done;
            }
            doCommandOf(q);
        }
        return n;
    }

    public int interrupts(int mask) {
        int bits = interruptBits;
        interruptBits = bits & ~mask;
        return bits;
    }

    public long block(int block, int k, boolean medium) {
        return medium ? disk.onMedium(block, k) : disk.asRead(block, k);
    }

    public int queue(int q, int what) {
        if (what < 0 || what > 8) {
            return REFUSED;
        }
        if (what < 5) {
            return hasSubmission(q) ? tellOfSubmission(submissions[q], what) : NONE;
        }
        return hasCompletion(q) ? tellOfCompletion(completions[q], what) : NONE;
    }

    public int count(int what) {
        switch (what) {
            case 0: return disk.cachedCount();
            case 1: return disk.isCaching() ? 1 : 0;
            case 2: return doneWell;
            case 3: return doneOtherwise;
            case 4: return blocksRead;
            case 5: return blocksStored;
            default: return REFUSED;
        }
    }

    private boolean hasSubmission(long q) {
        return q >= 0 && q < QUEUES && submissions[(int) q].there;
    }

    private boolean hasCompletion(long q) {
        return q >= 0 && q < QUEUES && completions[(int) q].there;
    }

    private static int tellOfSubmission(Submission queue, int what) {
        switch (what) {
            case 0: return queue.head;
            case 1: return queue.tail;
            case 2: return queue.held();
            case 3: return queue.size;
            default: return queue.answersTo;
        }
    }

    private static int tellOfCompletion(Completion queue, int what) {
        switch (what) {
            case 5: return queue.head;
            case 6: return queue.tail;
            case 7: return queue.phase;
            default: return queue.size;
        }
    }

    private int nextReady() {
        for (int i = 0; i < QUEUES; i++) {
            int q = (turn + i) % QUEUES;
            if (isReady(submissions[q])) {
                return q;
            }
        }
        return NONE;
    }

    private boolean isReady(Submission queue) {
        return queue.there && queue.held() > 0
            && hasCompletion(queue.answersTo) && !completions[queue.answersTo].isFull();
    }

    private void doCommandOf(int q) {
        Submission queue = submissions[q];
        command.take(memory, queue.addressOfHead());
        queue.head = queue.behind(queue.head);
        turn = (q + 1) % QUEUES;
        result = 0;
        int status = q == 0 ? doAdminOp() : doBlockOp();
        // counted behind the op: op 6 tells of the commands before it
        if (status == DONE) {
            doneWell++;
        } else {
            doneOtherwise++;
        }
        answer(q, status);
    }

    private void answer(int q, int status) {
        int to = submissions[q].answersTo;
        Completion queue = completions[to];
        long entry = (long) command.id
            | (long) q << 16
            | (long) submissions[q].head << 20
            | (long) status << 28
            | (long) queue.phase << 36
            | (long) result << 40;
        memory.put(queue.addressOfTail(), entry);
        queue.advance();
        if (queue.interrupting) {
            interruptBits |= 1 << to;
        }
    }

    private int doAdminOp() {
        switch (command.op) {
            case OP_MAKE_COMPLETION: return makeCompletion();
            case OP_MAKE_SUBMISSION: return makeSubmission();
            case OP_DROP_COMPLETION: return dropCompletion();
            case OP_DROP_SUBMISSION: return dropSubmission();
            case OP_CACHING: return switchCaching();
            case OP_REPORT: return report();
            case OP_CACHED: return tellCached();
            default: return NO_SUCH_OP;
        }
    }

    private int doBlockOp() {
        int wrong = wrongOfBlockOp();
        if (wrong != DONE) {
            return wrong;
        }
        switch (command.op) {
            case OP_FLUSH:
                disk.flush();
                return DONE;
            case OP_WRITE:
                storeFromData();
                return DONE;
            case OP_READ:
                readToData();
                return DONE;
            case OP_COMPARE:
                return sameAsData() ? DONE : NOT_SAME;
            case OP_ZERO:
                storeZeros();
                return DONE;
            default:
                return compareAndWrite();
        }
    }

    /** What keeps an op of blocks from being begun, or DONE: a list is read by then. */
    private int wrongOfBlockOp() {
        if (command.op < OP_FLUSH || command.op > OP_COMPARE_AND_WRITE) {
            return NO_SUCH_OP;
        }
        if (command.op == OP_FLUSH) {
            return DONE;
        }
        if (!Disk.isBlock(command.x) || !Disk.isBlock(command.x + command.n - 1)) {
            return NO_SUCH_BLOCK;
        }
        if (command.op == OP_ZERO) {
            return DONE;
        }
        boolean fits = command.op == OP_COMPARE_AND_WRITE
            ? Data.fitsStraight(command.p, command.n) && Data.fitsStraight(command.q, command.n)
            : data.layByPages(memory, command);
        return fits ? DONE : BAD_ADDRESS;
    }

    private int compareAndWrite() {
        data.layStraight((int) command.p, command.n);
        if (!sameAsData()) {
            return NOT_SAME;
        }
        data.layStraight((int) command.q, command.n);
        storeFromData();
        return DONE;
    }

    private void readToData() {
        for (int i = 0; i < command.n; i++) {
            disk.load((int) command.x + i, row);
            rowToData(i);
        }
        blocksRead += command.n;
    }

    private void storeZeros() {
        Arrays.fill(row, 0);
        for (int i = 0; i < command.n; i++) {
            disk.store((int) command.x + i, row);
        }
        endStoring();
    }

    private void storeFromData() {
        for (int i = 0; i < command.n; i++) {
            for (int k = 0; k < Disk.BLOCK; k++) {
                row[k] = memory.at(data.address(i * Disk.BLOCK + k));
            }
            disk.store((int) command.x + i, row);
        }
        endStoring();
    }

    private void endStoring() {
        blocksStored += command.n;
        if (command.flag) {
            disk.flush();
        }
    }

    private boolean sameAsData() {
        for (int i = 0; i < command.n; i++) {
            disk.load((int) command.x + i, row);
            for (int k = 0; k < Disk.BLOCK; k++) {
                if (row[k] != memory.at(data.address(i * Disk.BLOCK + k))) {
                    return false;
                }
            }
        }
        return true;
    }

    private void rowToData(int i) {
        for (int k = 0; k < Disk.BLOCK; k++) {
            memory.put(data.address(i * Disk.BLOCK + k), row[k]);
        }
    }

    private static boolean isBesideAdmin(long q) {
        return q >= 1 && q < QUEUES;
    }

    private int makeCompletion() {
        if (!isBesideAdmin(command.p) || hasCompletion(command.p)
            || !Completion.fits(command.q, command.x)) {
            return BAD_FIELD;
        }
        completions[(int) command.p].make((int) command.q, (int) command.x, command.flag);
        return DONE;
    }

    private int makeSubmission() {
        int answersTo = command.n - 1;
        if (!isBesideAdmin(command.p) || hasSubmission(command.p)
            || !Submission.fits(command.q, command.x)
            || !isBesideAdmin(answersTo) || !hasCompletion(answersTo)) {
            return BAD_FIELD;
        }
        submissions[(int) command.p].make((int) command.q, (int) command.x, answersTo);
        return DONE;
    }

    private int dropCompletion() {
        if (!isBesideAdmin(command.p) || !hasCompletion(command.p) || isAnsweredTo(command.p)) {
            return BAD_FIELD;
        }
        completions[(int) command.p].drop();
        return DONE;
    }

    private boolean isAnsweredTo(long completion) {
        for (int q = 0; q < QUEUES; q++) {
            if (submissions[q].there && submissions[q].answersTo == completion) {
                return true;
            }
        }
        return false;
    }

    private int dropSubmission() {
        if (!isBesideAdmin(command.p) || !hasSubmission(command.p)) {
            return BAD_FIELD;
        }
        submissions[(int) command.p].drop();
        return DONE;
    }

    private int switchCaching() {
        if (command.p != 0 && command.p != 1) {
            return BAD_FIELD;
        }
        result = disk.isCaching() ? 1 : 0;
        disk.setCaching(command.p == 1);
        return DONE;
    }

    private int report() {
        if (command.n != 1) {
            return BAD_FIELD;
        }
        if (!data.layByPages(memory, command)) {
            return BAD_ADDRESS;
        }
        Arrays.fill(row, 0);
        row[0] = Disk.BLOCKS;
        row[1] = doneWell;
        row[2] = doneOtherwise;
        row[3] = blocksRead;
        row[4] = blocksStored;
        rowToData(0);
        return DONE;
    }

    private int tellCached() {
        result = disk.cachedCount();
        return DONE;
    }

    /** The host's memory. */
    private static final class Memory {
        static final int LONGS = 1024;
        static final int PAGE = 16;

        private final long[] longs = new long[LONGS];

        static boolean holds(long address) {
            return address >= 0 && address < LONGS;
        }

        static boolean holdsPage(long address) {
            return address >= 0 && address < LONGS && address % PAGE == 0;
        }

        static int placeInPage(int address) {
            return address & (PAGE - 1);
        }

        long at(int address) {
            return holds(address) ? longs[address] : 0;
        }

        void put(int address, long v) {
            if (holds(address)) {
                longs[address] = v;
            }
        }
    }

    /** The blocks: those on the medium, and those in the cache before it. */
    private static final class Disk {
        static final int BLOCKS = 64;
        static final int BLOCK = 8;

        private static final int MOST_CACHED = 6;
        private static final int NOWHERE = -1;

        private final long[] medium = new long[BLOCKS * BLOCK];
        private final int[] cachedBlocks = new int[MOST_CACHED];
        private final long[] cache = new long[MOST_CACHED * BLOCK];
        private int cached;
        private boolean caching = true;

        static boolean isBlock(long block) {
            return block >= 0 && block < BLOCKS;
        }

        private static boolean isLong(int block, int k) {
            return isBlock(block) && k >= 0 && k < BLOCK;
        }

        int cachedCount() {
            return cached;
        }

        boolean isCaching() {
            return caching;
        }

        void setCaching(boolean wanted) {
            if (!wanted) {
                flush();
            }
            caching = wanted;
        }

        long onMedium(int block, int k) {
            return isLong(block, k) ? medium[block * BLOCK + k] : 0;
        }

        long asRead(int block, int k) {
            int place = placeOf(block);
            return place != NOWHERE && isLong(block, k)
                ? cache[place * BLOCK + k]
                : onMedium(block, k);
        }

        void load(int block, long[] row) {
            int place = placeOf(block);
            if (place != NOWHERE) {
                System.arraycopy(cache, place * BLOCK, row, 0, BLOCK);
            } else if (isBlock(block)) {
                System.arraycopy(medium, block * BLOCK, row, 0, BLOCK);
            }
        }

        void store(int block, long[] row) {
            if (!isBlock(block)) {
                return;
            }
            if (!caching) {
                System.arraycopy(row, 0, medium, block * BLOCK, BLOCK);
                return;
            }
            int place = placeOf(block);
            if (place == NOWHERE) {
                place = placeForNew(block);
            }
            System.arraycopy(row, 0, cache, place * BLOCK, BLOCK);
        }

        void flush() {
            for (int place = 0; place < cached; place++) {
                System.arraycopy(cache, place * BLOCK, medium, cachedBlocks[place] * BLOCK, BLOCK);
            }
            cached = 0;
        }

        void lose() {
            cached = 0;
        }

        private int placeOf(int block) {
            for (int place = 0; place < cached; place++) {
                if (cachedBlocks[place] == block) {
                    return place;
                }
            }
            return NOWHERE;
        }

        private int placeForNew(int block) {
            if (cached == MOST_CACHED) {
                System.arraycopy(cache, 0, medium, cachedBlocks[0] * BLOCK, BLOCK);
                cached--;
                System.arraycopy(cachedBlocks, 1, cachedBlocks, 0, cached);
                System.arraycopy(cache, BLOCK, cache, 0, cached * BLOCK);
            }
            int place = cached;
            cachedBlocks[place] = block;
            cached++;
            return place;
        }
    }

    /** What queues of both kinds have: entries in memory, gone through round. */
    private abstract static class Ring {
        private static final int LEAST_SIZE = 2;
        private static final int MOST_SIZE = 16;
        private static final int BASE_STEP = 4;

        boolean there;
        int base;
        int size;
        int head;
        int tail;

        static boolean fitsInMemory(long base, long size, int entry) {
            return Memory.holds(base) && base % BASE_STEP == 0
                && size >= LEAST_SIZE && size <= MOST_SIZE
                && base + size * entry <= Memory.LONGS;
        }

        void lay(int newBase, int newSize) {
            there = true;
            base = newBase;
            size = newSize;
            head = 0;
            tail = 0;
        }

        void drop() {
            there = false;
        }

        boolean hasPlace(int place) {
            return place >= 0 && place < size;
        }

        int behind(int place) {
            return place + 1 >= size ? 0 : place + 1;
        }

        int fromHeadTo(int place) {
            return place >= head ? place - head : place - head + size;
        }

        int held() {
            return fromHeadTo(tail);
        }
    }

    /** A queue of commands, fed by the host. */
    private static final class Submission extends Ring {
        int answersTo;

        static boolean fits(long base, long size) {
            return Ring.fitsInMemory(base, size, Command.LONGS);
        }

        void make(int newBase, int newSize, int completion) {
            lay(newBase, newSize);
            answersTo = completion;
        }

        int addressOfHead() {
            return base + head * Command.LONGS;
        }
    }

    /** A queue of answers, which the host takes note of. */
    private static final class Completion extends Ring {
        int phase;
        boolean interrupting;

        static boolean fits(long base, long size) {
            return Ring.fitsInMemory(base, size, 1);
        }

        void make(int newBase, int newSize, boolean withInterrupts) {
            lay(newBase, newSize);
            phase = 1;
            interrupting = withInterrupts;
        }

        boolean isFull() {
            return behind(tail) == head;
        }

        boolean reaches(int place) {
            return hasPlace(place) && fromHeadTo(place) <= held();
        }

        int addressOfTail() {
            return base + tail;
        }

        void advance() {
            tail = behind(tail);
            if (tail == 0) {
                phase = 1 - phase;
            }
        }
    }

    /** The fields of the command at hand: what it does must not change them. */
    private static final class Command {
        static final int LONGS = 4;

        int op;
        int id;
        boolean flag;
        int n;
        long p;
        long q;
        long x;

        void take(Memory memory, int address) {
            long first = memory.at(address);
            op = (int) (first & 0xFF);
            id = (int) (first >>> 8 & 0xFFFF);
            flag = (first >>> 24 & 1) == 1;
            n = (int) (first >>> 32 & 0xFF) + 1;
            p = memory.at(address + 1);
            q = memory.at(address + 2);
            x = memory.at(address + 3);
        }
    }

    /**
     * Where the longs of a command's DATA are. The list is read when it is
     * laid out: data that move over it later do not turn them elsewhere.
     */
    private static final class Data {
        // a list lies within one page, so it names no more pages than this
        private final int[] pages = new int[Memory.PAGE];
        private int first;
        private int firstLongs;

        boolean layByPages(Memory memory, Command command) {
            if (!Memory.holds(command.p)) {
                return false;
            }
            first = (int) command.p;
            int all = command.n * Disk.BLOCK;
            firstLongs = Math.min(all, Memory.PAGE - Memory.placeInPage(first));
            int rest = all - firstLongs;
            if (rest == 0) {
                return true;
            }
            return rest <= Memory.PAGE
                ? addPage(0, command.q)
                : addList(memory, command.q, (rest + Memory.PAGE - 1) / Memory.PAGE);
        }

        private boolean addList(Memory memory, long list, int needed) {
            if (!Memory.holds(list) || Memory.placeInPage((int) list) + needed > Memory.PAGE) {
                return false;
            }
            for (int i = 0; i < needed; i++) {
                if (!addPage(i, memory.at((int) list + i))) {
                    return false;
                }
            }
            return true;
        }

        private boolean addPage(int i, long page) {
            if (i >= Memory.PAGE || !Memory.holdsPage(page)) {
                return false;
            }
            pages[i] = (int) page;
            return true;
        }

        static boolean fitsStraight(long from, int n) {
            return Memory.holdsPage(from) && from + n * Disk.BLOCK <= Memory.LONGS;
        }

        void layStraight(int from, int n) {
            first = from;
            firstLongs = n * Disk.BLOCK;
        }

        int address(int i) {
            if (i < firstLongs) {
                return first + i;
            }
            int behindFirst = i - firstLongs;
            int page = Math.min(behindFirst / Memory.PAGE, Memory.PAGE - 1);
            return pages[page] + Memory.placeInPage(behindFirst);
        }
    }
}
