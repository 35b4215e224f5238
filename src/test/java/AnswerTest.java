/** Terms: the bits of a command and of its answer. */
public final class AnswerTest {
    private static final int FREE = 512;

    public static void main(String[] args) {
        bitsOfOp();
        bitsOfId();
        bitOfFlag();
        bitsOfCount();
        theOtherLongs();
        idOfTheAnswer();
        queueOfTheAnswer();
        headOfTheAnswer();
        statusOfTheAnswer();
        phaseOfTheAnswer();
        resultOfTheAnswer();
        otherBitsOfTheAnswer();
        whereItIsWritten();
        itMayBeWrittenOverAnything();
        Check.end();
    }

    private static long answer(long id, long queue, long head, long status, long phase, long result) {
        return id | queue << 16 | head << 20 | status << 28 | phase << 36 | result << 40;
    }

    private static void bitsOfOp() {
        Check.sentence("A COMMAND: four longs; the first: OP, bits 0 to 7");
        Host host = Host.ready();
        for (int bit = 0; bit < 8; bit++) {
            // op 7 with one bit turned: only 3, 5 and 6 are ops, and their fields are wrong
            int op = 7 ^ 1 << bit;
            int status = op == 6 ? 0 : op == 3 || op == 5 ? 2 : 1;
            host.status("op " + op, 0, Cmd.op(op).p(500), status);
        }
        for (int bit = 8; bit < 64; bit++) {
            if (bit % 2 == 0 || bit < 10) {
                long answer = host.sendLongs(0, 7 | 1L << bit, 0, 0, 0);
                Check.due("op 7 and bit " + bit, Host.statusOf(answer), 0);
            }
        }
        Check.due("op 255", Host.statusOf(host.send(1, Cmd.op(255))), 1);
        Check.due("op 16 + 256", Host.statusOf(host.sendLongs(1, 16 + 256, 0, 0, 0)), 0);
    }

    private static void bitsOfId() {
        Check.sentence("ID, bits 8 to 23");
        Host host = Host.begun();
        for (int bit = 8; bit <= 23; bit++) {
            long answer = host.sendLongs(0, 7 | 1L << bit, 0, 0, 0);
            Check.due("ID by bit " + bit, answer & 0xFFFF, 1 << bit - 8);
        }
        for (int bit : new int[] {24, 25, 31, 32, 63}) {
            long answer = host.sendLongs(0, 7 | 1L << bit, 0, 0, 0);
            Check.due("ID by bit " + bit, answer & 0xFFFF, 0);
        }
        Check.due("ID by bit 7", host.sendLongs(0, 128, 0, 0, 0) & 0xFFFF, 0);
        Check.due("ID by all", host.sendLongs(0, -1, 0, 0, 0) & 0xFFFF, 0xFFFF);
    }

    private static void bitOfFlag() {
        Check.sentence("FLAG, bit 24");
        Host host = Host.ready();
        for (int bit = 22; bit <= 31; bit++) {
            long answer = host.sendLongs(1, 20 | 1L << bit, 0, 0, 5);
            Check.due("bit " + bit, Host.statusOf(answer), 0);
            // FLAG: the block is FLUSHED then
            host.dueCount(0, bit == 24 ? 0 : 1);
        }
        host.status("flush", 1, Cmd.op(16), 0);
        for (int bit : new int[] {40, 56, 63}) {
            host.sendLongs(1, 20 | 1L << bit, 0, 0, 5);
            host.dueCount(0, 1);
        }
        host.sendLongs(1, 20 | 0xFFFFL << 8 | 0xFEL << 24, 0, 0, 5);
        host.dueCount(0, 1);
        host.sendLongs(1, 20 | 0xFFFFL << 8 | 0xFFL << 24, 0, 0, 5);
        host.dueCount(0, 0);
    }

    private static void bitsOfCount() {
        Check.sentence("COUNT, bits 32 to 39, and 1 more: n");
        Host host = Host.ready();
        int stored = 0;
        for (int bit = 30; bit <= 42; bit++) {
            long count = bit >= 32 && bit <= 39 ? 1L << bit - 32 : 0;
            boolean blocks = count + 1 <= 64;
            long answer = host.sendLongs(1, 20 | 1L << bit, 0, 0, 0);
            Check.due("COUNT by bit " + bit, Host.statusOf(answer), blocks ? 0 : 3);
            stored += blocks ? (int) count + 1 : 0;
            host.dueCount(5, stored);
        }
        host.status("n is 64", 1, Cmd.op(20).n(64), 0);
        host.dueCount(5, stored + 64);
        host.status("n is 65", 1, Cmd.op(20).n(65), 3);
        host.status("n is 255", 1, Cmd.op(20).n(255).x(1), 3);
        // were it 0, the last block would be the one before X
        host.status("n is 256", 1, Cmd.op(20).n(256).x(1), 3);
        host.dueCount(5, stored + 64);
    }

    private static void theOtherLongs() {
        Check.sentence("the second and third P and Q; the fourth X");
        Host host = Host.begun();
        Check.due("completion queue 3 at 288 of 5",
            Host.statusOf(host.sendLongs(0, 1, 3, 288, 5)), 0);
        host.dueQueue(3, 8, 5);
        Check.due("submission queue 2 at 300 of 7",
            Host.statusOf(host.sendLongs(0, 2 | 3L << 32, 2, 300, 7)), 0);
        host.dueQueue(2, 3, 7);
        host.pokeAll(300, 16 | 9 << 8, 0, 0, 0);
        Check.due("ring(2, 1)", host.drive.ring(2, 1), 1);
        host.dueRun(9, 1);
        host.dueLong(288, answer(9, 2, 1, 0, 1, 0));
    }

    private static void idOfTheAnswer() {
        Check.sentence("ANSWER: a long: ID, bits 0 to 15");
        Host host = Host.begun();
        int head = 0;
        for (int id : new int[] {0, 1, 0x7FFF, 0x8000, 0xFFFF}) {
            head++;
            Check.due("ID " + id, host.send(0, Cmd.op(7).id(id)), answer(id, 0, head, 0, 1, 0));
        }
    }

    private static void queueOfTheAnswer() {
        Check.sentence("the submission queue, bits 16 to 19");
        Host host = Host.withAllQueues();
        for (int q = 0; q <= 3; q++) {
            int head = q == 0 ? 7 : 1;
            Check.due("queue " + q, host.send(q, Cmd.op(q == 0 ? 7 : 16).id(0xFFFF)),
                answer(0xFFFF, q, head, 0, 1, 0));
        }
    }

    private static void headOfTheAnswer() {
        Check.sentence("its head, behind the command, bits 20 to 27");
        for (int size : new int[] {2, 3, 15, 16}) {
            Host host = Host.begun(0, size, 256, 16);
            for (int i = 1; i <= size + 1; i++) {
                int phase = i <= 16 ? 1 : 0;
                Check.due("answer " + i + " of " + size, host.send(0, Cmd.op(7)),
                    answer(0, 0, i % size, 0, phase, 0));
            }
        }
    }

    private static void statusOfTheAnswer() {
        Check.sentence("STATUS, bits 28 to 35");
        Host host = Host.ready();
        Cmd[] commands = {
            Cmd.op(18).p(FREE), Cmd.op(15).p(FREE), null, Cmd.op(18).p(FREE).x(64),
            Cmd.op(18).p(1024), Cmd.op(19).p(FREE + 1)
        };
        host.drive.poke(FREE + 8, 1);
        int head = 0;
        for (int status = 0; status <= 5; status++) {
            if (status != 2) {
                head++;
                Check.due("status " + status, host.send(1, commands[status].id(0xFFFF)),
                    answer(0xFFFF, 1, head, status, 1, 0));
            }
        }
        Check.due("status 2", host.send(0, Cmd.op(5).p(2).id(1)), answer(1, 0, 3, 2, 1, 0));
    }

    private static void phaseOfTheAnswer() {
        Check.sentence("the phase, bit 36");
        Host host = Host.begun(0, 16, 256, 2);
        for (int i = 1; i <= 6; i++) {
            int phase = (i - 1) / 2 % 2 == 0 ? 1 : 0;
            Check.due("answer " + i, host.send(0, Cmd.op(7)), answer(0, 0, i, 0, phase, 0));
        }
    }

    private static void resultOfTheAnswer() {
        Check.sentence("a RESULT, bits 40 to 62");
        Host host = Host.ready();
        for (int cached = 1; cached <= 6; cached++) {
            host.status("zero", 1, Cmd.op(20).x(cached), 0);
            Check.due(cached + " cached", host.send(0, Cmd.op(7).id(3)),
                answer(3, 0, 2 + cached, 0, 1, cached));
        }
        Check.due("caching off", host.send(0, Cmd.op(5).p(0)), answer(0, 0, 9, 0, 1, 1));
        Check.due("caching off", host.send(0, Cmd.op(5).p(0)), answer(0, 0, 10, 0, 1, 0));
    }

    private static void otherBitsOfTheAnswer() {
        Check.sentence("others 0.");
        Host host = Host.ready();
        host.fill(Host.answers(1), 4, -1);
        host.status("zero", 1, Cmd.op(20).n(4).x(3), 0);
        // a RESULT is that of its own command: none is left from the one before
        host.result("cached", Cmd.op(7), 4);
        Check.due("all bits of the command", host.sendLongs(0, -1, -1, -1, -1),
            answer(0xFFFF, 0, 4, 1, 1, 0));
        Check.due("a wrong P", host.send(0, Cmd.op(5).p(-1)), answer(0, 0, 5, 2, 1, 0));
        Check.due("read", host.send(1, Cmd.op(18).p(FREE).x(3)), answer(0, 1, 2, 0, 1, 0));
        Check.due("not the same", host.send(1, Cmd.op(19).p(0).x(3)), answer(0, 1, 3, 5, 1, 0));
        Check.due("make", host.send(0, Cmd.makeCompletion(2, 288, 4)), answer(0, 0, 6, 0, 1, 0));
        Check.due("report", host.send(0, Cmd.op(6).p(FREE)), answer(0, 0, 7, 0, 1, 0));
    }

    private static void whereItIsWritten() {
        Check.sentence("It is written at the completion queue's tail, which goes 1 on");
        for (int size : new int[] {2, 5}) {
            Host host = Host.begun(0, 4, FREE, size);
            for (int i = 0; i < size + 1; i++) {
                host.fill(FREE - 1, size + 2, -100);
                host.dueQueue(0, 6, i % size);
                host.place(0, Cmd.op(7).id(40 + i));
                host.dueRun(1, 1);
                host.dueQueue(0, 6, (i + 1) % size);
                int at = FREE + i % size;
                host.dueLong(at, answer(40 + i, 0, (i + 1) % 4, 0, i < size ? 1 : 0, 0));
                host.dueLong(at - 1, -100 + i % size);
                host.dueLong(at + 1, -100 + i % size + 2);
                Check.due("seen", host.drive.seen(0, (i + 1) % size), 0);
            }
        }
    }

    private static void itMayBeWrittenOverAnything() {
        DoorbellDrive drive = new DoorbellDrive();
        // the answer to the first command becomes the first long of the second
        drive.begin(0, 4, 4, 4);
        drive.poke(0, 7 | 7 << 8);
        drive.poke(4, 99);
        drive.ring(0, 2);
        Check.due("run(9)", drive.run(9), 2);
        Check.due("peek(4)", drive.peek(4), answer(7, 0, 1, 0, 1, 0));
        // its op is 7, the ID of the first
        Check.due("peek(5)", drive.peek(5), answer(1 << 12, 0, 2, 0, 1, 0));
    }
}
