import java.util.Random;

/**
 * Many runs of calls, drawn from fixed seeds, on a drive and on the model: each
 * answer must be the same, and no call may throw, whatever it is given.
 */
public final class ModelTest {
    private static final int RUNS = 1500;
    private static final int CALLS = 512;
    private static final int[] ODD = {
        -1, -16, 4, 9, 15, 16, 17, 63, 64, 200, 201, 1008, 1023, 1024, 1040,
        Integer.MAX_VALUE, Integer.MIN_VALUE
    };
    private static final long[] ODD_LONGS = {
        -1, -16, 4, 63, 64, 1023, 1024, 1L << 32, 1L << 32 | 1, Long.MAX_VALUE,
        Long.MAX_VALUE - 15, Long.MIN_VALUE, Long.MIN_VALUE + 1
    };

    private final Random random;
    private final DoorbellDrive drive = new DoorbellDrive();
    private final Model model = new Model();
    private final int run;
    private int calls;

    private ModelTest(int run) {
        this.run = run;
        random = new Random(run);
    }

    public static void main(String[] args) {
        int well = 0;
        int otherwise = 0;
        for (int run = 0; run < RUNS; run++) {
            ModelTest test = new ModelTest(run);
            test.go();
            well += test.model.count(2);
            otherwise += test.model.count(3);
        }
        System.out.println(well + " commands with status 0, " + otherwise + " with others");
        Check.so("the runs are worth something", well > 10 * RUNS && otherwise > RUNS);
        Check.end();
    }

    private void go() {
        if (random.nextInt(8) != 0) {
            due("begin", drive.begin(0, 16, 256, 16), model.begin(0, 16, 256, 16));
            for (int q = 1; q <= 2; q++) {
                write(0, Cmd.makeCompletion(q, Host.answers(q), 16).longs());
                write(0, Cmd.makeSubmission(q, Host.base(q), 16, q).longs());
            }
            due("run(9)", drive.run(9), model.run(9));
        }
        while (calls < CALLS - 80) {
            step();
        }
        while (calls < CALLS) {
            look();
        }
    }

    private void due(String call, long got, long want) {
        calls++;
        Check.due("run " + run + ", call " + calls + ": " + call, got, want);
    }

    private int pick(int below) {
        return random.nextInt(40) == 0 ? ODD[random.nextInt(ODD.length)] : random.nextInt(below);
    }

    private void step() {
        int kind = random.nextInt(100);
        if (kind < 45) {
            place();
        } else if (kind < 65) {
            runSome();
        } else if (kind < 85) {
            see();
        } else if (kind < 87) {
            ring(pick(4), pick(16));
        } else if (kind < 93) {
            int address = pick(1024);
            poke(address, someLong());
        } else if (kind < 94 && random.nextInt(4) == 0) {
            boolean power = random.nextBoolean();
            due("stop(" + power + ")", drive.stop(power), model.stop(power));
        } else if (kind < 95 || !model.on && kind < 99) {
            begin();
        } else {
            look();
        }
    }

    private void begin() {
        int base = random.nextInt(10) == 0 ? pick(1024) : 4 * random.nextInt(40);
        int size = pick(17);
        int answers = random.nextInt(10) == 0 ? pick(1024) : 256 + 4 * random.nextInt(10);
        int answersSize = pick(17);
        due("begin(" + base + ", " + size + ", " + answers + ", " + answersSize + ")",
            drive.begin(base, size, answers, answersSize),
            model.begin(base, size, answers, answersSize));
    }

    private void poke(int address, long v) {
        due("poke(" + address + ", " + v + ")", drive.poke(address, v), model.poke(address, v));
    }

    private void ring(int queue, int tail) {
        due("ring(" + queue + ", " + tail + ")", drive.ring(queue, tail), model.ring(queue, tail));
    }

    private void runSome() {
        int n = random.nextInt(4) == 0 ? pick(201) : random.nextInt(6);
        due("run(" + n + ")", drive.run(n), model.run(n));
    }

    private void see() {
        int q = pick(4);
        Model.Queue queue = q >= 0 && q < 4 ? model.completions[q] : null;
        int head = queue == null || random.nextInt(5) == 0 ? pick(16) : queue.tail;
        due("seen(" + q + ", " + head + ")", drive.seen(q, head), model.seen(q, head));
    }

    /** Writes a command at the tail of a queue that is there, and rings. */
    private void place() {
        int q = random.nextInt(4);
        if (model.submissions[q] == null) {
            q = 0;
        }
        if (model.submissions[q] == null) {
            look();
            return;
        }
        write(q, q == 0 ? adminCommand() : blockCommand());
    }

    private void write(int q, long[] longs) {
        Model.Queue queue = model.submissions[q];
        for (int i = 0; i < 4; i++) {
            poke((int) queue.base + 4 * queue.tail + i, longs[i]);
        }
        ring(q, (queue.tail + 1) % (int) queue.size);
    }

    private long first(int op, int n) {
        long others = random.nextInt(10) == 0 ? random.nextLong() & ~(0xFFL << 32 | 0xFF) : 0;
        long flag = random.nextInt(4) == 0 ? 1L << 24 : 0;
        return others | op | (long) random.nextInt(65536) << 8 | flag | (long) (n - 1) << 32;
    }

    private long[] adminCommand() {
        int op = random.nextInt(30) == 0 ? random.nextInt(256) : 1 + random.nextInt(7);
        if (random.nextInt(3) == 0) {
            op = 1 + random.nextInt(2);
        }
        if (op <= 4) {
            int n = op == 2 || random.nextInt(5) == 0 ? 1 + random.nextInt(5) : 1;
            int base = op == 1 ? 256 + 4 * random.nextInt(16) : 4 * random.nextInt(48);
            return new long[] {first(op, n), odd(random.nextInt(4)),
                odd(random.nextInt(6) == 0 ? 4 * random.nextInt(256) : base),
                odd(random.nextInt(18))};
        }
        if (op == 5) {
            return new long[] {first(op, 1), odd(random.nextInt(2)), odd(0), odd(0)};
        }
        int n = random.nextInt(10) == 0 ? 2 : 1;
        return new long[] {first(op, n), odd(random.nextInt(1024)), pageAddress(), odd(0)};
    }

    private long[] blockCommand() {
        int op = random.nextInt(30) == 0 ? random.nextInt(256) : 16 + random.nextInt(6);
        int n = random.nextInt(3) == 0 ? 1 + random.nextInt(12) : 1 + random.nextInt(3);
        if (random.nextInt(20) == 0) {
            n = 1 + random.nextInt(64);
        }
        long p = op == 21 || random.nextBoolean() ? pageAddress() : odd(512 + random.nextInt(512));
        long q = listOrPage(n);
        // few blocks, so that comparing, storing and reading meet
        long x = random.nextInt(10) == 0 ? random.nextInt(64) : random.nextInt(10);
        return new long[] {first(op, n), p, q, odd(x)};
    }

    /** Where a list is needed, one is mostly written first. */
    private long listOrPage(int n) {
        if (n <= 3 || random.nextInt(6) == 0) {
            return pageAddress();
        }
        int needed = (8 * n + 15) / 16;
        int page = random.nextInt(6) == 0 ? random.nextInt(64) : 20 + random.nextInt(12);
        int at = 16 * page + random.nextInt(Math.max(1, 18 - Math.min(17, needed)));
        for (int i = 0; i < needed && i < 8; i++) {
            poke(at + i, pageAddress());
        }
        return at;
    }

    private long pageAddress() {
        // mostly in the upper half, so that data seldom go over queues
        return odd(random.nextInt(12) == 0 ? 16L * random.nextInt(64) : 512 + 16L * random.nextInt(32));
    }

    private long odd(long usual) {
        return random.nextInt(60) == 0 ? ODD_LONGS[random.nextInt(ODD_LONGS.length)] : usual;
    }

    private long someLong() {
        return random.nextInt(4) == 0 ? random.nextLong() : random.nextInt(3);
    }

    private void look() {
        int kind = random.nextInt(8);
        int one = pick(kind < 3 ? 1024 : kind < 5 ? 12 : 6);
        int two = pick(9);
        boolean medium = random.nextBoolean();
        if (kind < 3) {
            due("peek(" + one + ")", drive.peek(one), model.peek(one));
        } else if (kind < 5) {
            due("block(" + one + ", " + two + ", " + medium + ")",
                drive.block(one, two, medium), model.block(one, two, medium));
        } else if (kind < 6) {
            due("queue(" + one + ", " + two + ")", drive.queue(one, two), model.queue(one, two));
        } else if (kind < 7) {
            due("count(" + one + ")", drive.count(one), model.count(one));
        } else {
            due("interrupts(" + one + ")", drive.interrupts(one), model.interrupts(one));
        }
    }
}
