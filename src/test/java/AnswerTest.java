/** Terms: the bits of a command and of its answer. */
public final class AnswerTest {
    public static void main(String[] args) {
        everyBitOfAnAnswer();
        onlyTheNamedBitsOfACommandCount();
        headGoesRound();
        answerGoesToItsCompletionQueue();
        answerMayLieOverAnything();
        Check.end();
    }

    private static long answer(long id, long queue, long head, long status, long phase, long result) {
        return id | queue << 16 | head << 20 | status << 28 | phase << 36 | result << 40;
    }

    private static void everyBitOfAnAnswer() {
        Host host = Host.ready();
        host.fill(512, 8, 1);
        Check.due("write", host.send(1, Cmd.op(17).id(0xFFFF).p(512).x(1)),
            answer(0xFFFF, 1, 1, 0, 1, 0));
        Check.due("write", host.send(1, Cmd.op(17).id(0x8001).p(512).x(2)),
            answer(0x8001, 1, 2, 0, 1, 0));
        Check.due("how many are cached", host.send(0, Cmd.op(7).id(0x1234)),
            answer(0x1234, 0, 3, 0, 1, 2));
        Check.due("no such block", host.send(1, Cmd.op(18).id(1).x(64)),
            answer(1, 1, 3, 3, 1, 0));
        Check.due("caching: a wrong P", host.send(0, Cmd.op(5).id(9).p(2)),
            answer(9, 0, 4, 2, 1, 0));
        Check.due("caching off", host.send(0, Cmd.op(5).id(9).p(0)),
            answer(9, 0, 5, 0, 1, 1));
    }

    private static void onlyTheNamedBitsOfACommandCount() {
        DoorbellDrive drive = new DoorbellDrive();
        drive.begin(0, 4, 256, 4);
        long otherBits = ~(0xFFL | 0xFFFFL << 8);
        drive.poke(0, otherBits | 7 | 3 << 8);
        drive.poke(1, -1);
        drive.poke(2, Long.MIN_VALUE);
        drive.poke(3, -1);
        drive.ring(0, 1);
        Check.due("run(1)", drive.run(1), 1);
        Check.due("peek(256)", drive.peek(256), answer(3, 0, 1, 0, 1, 0));
        // bits 25 to 31 and 40 to 63 stand beside FLAG and COUNT
        drive.poke(4, 1 | 4 << 8 | 0x7FL << 25 | 0xFFFFFFL << 40);
        drive.poke(5, 1);
        drive.poke(6, 272);
        drive.poke(7, 4);
        drive.poke(8, 2 | 5 << 8 | 0x7FL << 25 | 0xFFFFFFL << 40 | 1L << 32);
        drive.poke(9, 1);
        drive.poke(10, 64);
        drive.poke(11, 4);
        drive.ring(0, 3);
        Check.due("run(9)", drive.run(9), 2);
        Check.due("peek(257)", drive.peek(257), answer(4, 0, 2, 0, 1, 0));
        Check.due("peek(258)", drive.peek(258), answer(5, 0, 3, 0, 1, 0));
        drive.interrupts(-1);
        drive.poke(64, 16);
        drive.ring(1, 1);
        Check.due("run(9)", drive.run(9), 1);
        Check.due("interrupts(0): FLAG was 0", drive.interrupts(0), 0);
    }

    private static void headGoesRound() {
        DoorbellDrive drive = new DoorbellDrive();
        drive.begin(1008, 3, 1020, 4);
        for (int i = 0; i < 9; i++) {
            drive.poke(1008 + i % 3 * 4, 7 | i << 8);
            Check.due("ring", drive.ring(0, (i + 1) % 3), 1);
            Check.due("run(1)", drive.run(1), 1);
            Check.due("answer " + i, drive.peek(1020 + i % 4),
                answer(i, 0, (i + 1) % 3, 0, i / 4 % 2 == 0 ? 1 : 0, 0));
            Check.due("seen", drive.seen(0, (i + 1) % 4), 0);
        }
    }

    private static void answerGoesToItsCompletionQueue() {
        Host host = Host.begun();
        host.status("completion queue 3", 0, Cmd.makeCompletion(3, 304, 4).flag(), 0);
        host.status("submission queue 1", 0, Cmd.makeSubmission(1, 64, 16, 3), 0);
        host.status("submission queue 2", 0, Cmd.makeSubmission(2, 128, 16, 3), 0);
        host.drive.interrupts(-1);
        host.place(1, Cmd.op(16).id(11));
        host.place(2, Cmd.op(16).id(22));
        Check.due("run(9)", host.drive.run(9), 2);
        Check.due("peek(304)", host.drive.peek(304), answer(11, 1, 1, 0, 1, 0));
        Check.due("peek(305)", host.drive.peek(305), answer(22, 2, 1, 0, 1, 0));
        Check.due("interrupts(0)", host.drive.interrupts(0), 8);
    }

    private static void answerMayLieOverAnything() {
        DoorbellDrive drive = new DoorbellDrive();
        // the answer to the first command becomes the first long of the second
        drive.begin(0, 4, 4, 4);
        drive.poke(0, 7 | 7 << 8);
        drive.poke(4, 99);
        drive.ring(0, 2);
        Check.due("run(9)", drive.run(9), 2);
        Check.due("peek(4)", drive.peek(4), answer(7, 0, 1, 0, 1, 0));
        // its op is 7, the ID of the first
        Check.due("peek(5)", drive.peek(5), answer(1 << 12 & 0xFFFF, 0, 2, 0, 1, 0));
    }
}
