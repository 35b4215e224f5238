/** Terms: the ops of the other submission queues. */
public final class BlockOpsTest {
    private static final int[] WITH_BLOCKS = {17, 18, 19, 20, 21};

    public static void main(String[] args) {
        opsThatThereAreNot();
        blocksThatThereAreNot();
        statusThreeComesBeforeFour();
        flush();
        write();
        writeWithFlag();
        read();
        compare();
        zero();
        compareAndWrite();
        compareAndWriteAddresses();
        compareAndWriteManyBlocks();
        Check.end();
    }

    private static void opsThatThereAreNot() {
        Host host = Host.ready();
        for (int op : new int[] {0, 1, 2, 3, 4, 5, 6, 7, 15, 22, 127, 255}) {
            host.status("op " + op, 1, Cmd.op(op).x(-1).p(-1), 1);
        }
    }

    private static void blocksThatThereAreNot() {
        long[] wrong = {64, 65, -1, 1L << 32, Long.MAX_VALUE, Long.MIN_VALUE};
        for (int op : WITH_BLOCKS) {
            Host host = Host.ready();
            for (long x : wrong) {
                host.status("op " + op + " of " + x, 1, Cmd.op(op).p(512).q(528).x(x), 3);
            }
            host.status("op " + op + " of 63 and 64", 1, Cmd.op(op).n(2).p(512).q(528).x(63), 3);
            host.status("op " + op + " of 256", 1, Cmd.op(op).n(256).p(512).q(528).x(0), 3);
            host.status("op " + op + " of 65", 1, Cmd.op(op).n(65).p(512).q(528).x(0), 3);
            host.status("op " + op + " of -1 and 0", 1, Cmd.op(op).n(2).p(512).q(528).x(-1), 3);
            host.status("op " + op + " of 63", 1, Cmd.op(op).p(512).q(528).x(63), 0);
            host.status("op " + op + " of 62, 63", 1, Cmd.op(op).n(2).p(512).q(528).x(62), 0);
        }
    }

    private static void statusThreeComesBeforeFour() {
        Host host = Host.ready();
        for (int op : WITH_BLOCKS) {
            host.status("op " + op, 1, Cmd.op(op).p(-1).q(-1).x(64), 3);
            host.status("op " + op, 1, Cmd.op(op).p(-1).q(-1).x(0), op == 20 ? 0 : 4);
        }
    }

    private static void flush() {
        Host host = Host.ready();
        host.fill(512, 16, 7);
        host.status("write", 1, Cmd.op(17).n(2).p(512).x(30), 0);
        host.dueBlock(30, true, 0, 0);
        host.status("flush; n, P, Q and X without meaning", 1,
            Cmd.op(16).n(256).p(-1).q(-1).x(-1), 0);
        host.dueCount(0, 0);
        host.dueBlock(30, true, 7, 1);
        host.dueBlock(31, true, 15, 1);
    }

    private static void write() {
        Host host = Host.ready();
        host.fill(512, 16, 7);
        host.status("write", 1, Cmd.op(17).n(2).p(512).x(20), 0);
        host.dueBlock(19, false, 0, 0);
        host.dueBlock(20, false, 7, 1);
        host.dueBlock(21, false, 15, 1);
        host.dueBlock(22, false, 0, 0);
        host.dueMemory(512, 16, 7);
        host.status("write from nowhere does nothing", 1, Cmd.op(17).n(2).p(513).q(3).x(20), 4);
        host.dueBlock(20, false, 7, 1);
    }

    private static void writeWithFlag() {
        Host host = Host.ready();
        host.fill(512, 16, 7);
        host.status("write", 1, Cmd.op(17).p(512).x(20), 0);
        host.status("not done: not flushed", 1, Cmd.op(17).flag().p(-1).x(21), 4);
        host.dueCount(0, 1);
        host.status("write with FLAG", 1, Cmd.op(17).flag().p(520).x(21), 0);
        host.dueCount(0, 0);
        host.dueBlock(20, true, 7, 1);
        host.dueBlock(21, true, 15, 1);
    }

    private static void read() {
        Host host = Host.ready();
        host.fill(512, 16, 7);
        host.status("write", 1, Cmd.op(17).flag().n(2).p(512).x(20), 0);
        host.fill(512, 16, 77);
        host.status("write over one of them", 1, Cmd.op(17).p(512).x(21), 0);
        host.fill(600, 26, 900);
        host.status("read", 1, Cmd.op(18).n(2).p(601).q(624).flag().x(20), 0);
        Check.due("peek(600)", host.drive.peek(600), 900);
        host.dueMemory(601, 7, 7);
        Check.due("peek(608)", host.drive.peek(608), 908);
    }

    private static void compare() {
        Host host = Host.ready();
        host.fill(512, 16, 7);
        host.status("write", 1, Cmd.op(17).n(2).p(512).x(20), 0);
        host.status("the same", 1, Cmd.op(19).n(2).p(512).x(20), 0);
        for (int i = 0; i < 16; i++) {
            host.drive.poke(512 + i, -1);
            host.status("other at " + i, 1, Cmd.op(19).n(2).p(512).x(20), 5);
            host.drive.poke(512 + i, 7 + i);
        }
        host.status("4 comes before 5", 1, Cmd.op(19).n(2).p(513).q(1).x(40), 4);
        host.status("FLAG without meaning", 1, Cmd.op(19).flag().n(2).p(512).x(20), 0);
        host.dueCount(0, 2);
        host.dueBlock(20, false, 7, 1);
        host.dueMemory(512, 16, 7);
    }

    private static void zero() {
        Host host = Host.ready();
        host.fill(512, 16, 7);
        host.status("write", 1, Cmd.op(17).flag().n(2).p(512).x(20), 0);
        host.status("zero", 1, Cmd.op(20).p(-1).q(-1).x(20), 0);
        host.dueCount(0, 1);
        host.dueBlock(20, true, 7, 1);
        host.dueBlock(20, false, 0, 0);
        host.dueBlock(21, false, 15, 1);
        host.status("zero with FLAG", 1, Cmd.op(20).flag().n(2).x(20), 0);
        host.dueCount(0, 0);
        host.dueBlock(20, true, 0, 0);
        host.dueBlock(21, true, 0, 0);
    }

    private static void compareAndWrite() {
        Host host = Host.ready();
        host.fill(512, 8, 7);
        host.fill(528, 8, 70);
        host.status("write", 1, Cmd.op(17).p(512).x(20), 0);
        host.status("not the same", 1, Cmd.op(21).flag().p(528).q(512).x(20), 5);
        host.dueCount(0, 1);
        host.dueBlock(20, false, 7, 1);
        host.status("the same", 1, Cmd.op(21).p(512).q(528).x(20), 0);
        host.dueCount(0, 1);
        host.dueBlock(20, false, 70, 1);
        host.dueBlock(20, true, 0, 0);
        host.drive.poke(535, 78);
        host.status("other in the last long", 1, Cmd.op(21).p(528).q(512).x(20), 5);
        host.drive.poke(535, 77);
        host.status("the same, with FLAG", 1, Cmd.op(21).flag().p(528).q(512).x(20), 0);
        host.dueCount(0, 0);
        host.dueBlock(20, true, 7, 1);
    }

    private static void compareAndWriteAddresses() {
        Host host = Host.ready();
        long[] wrong = {1, 8, 15, 520, -16, 1024, 1L << 32, Long.MAX_VALUE - 15, Long.MIN_VALUE};
        for (long address : wrong) {
            host.status("P " + address, 1, Cmd.op(21).p(address).q(512).x(20), 4);
            host.status("Q " + address, 1, Cmd.op(21).p(512).q(address).x(20), 4);
        }
        host.status("not the same, but Q wrong", 1, Cmd.op(21).p(0).q(1).x(20), 4);
        host.status("the last page, P", 1, Cmd.op(21).n(2).p(1008).q(512).x(20), 0);
        host.status("the last page, Q", 1, Cmd.op(21).n(2).p(512).q(1008).x(20), 0);
        host.status("behind the last page, P", 1, Cmd.op(21).n(3).p(1008).q(512).x(20), 4);
        host.status("behind the last page, Q", 1, Cmd.op(21).n(3).p(512).q(1008).x(20), 4);
        host.dueCount(5, 4);
    }

    private static void compareAndWriteManyBlocks() {
        Host host = Host.ready();
        host.fill(672, 40, 1);
        host.status("5 blocks, no list", 1, Cmd.op(21).n(5).p(512).q(672).x(40), 0);
        for (int i = 0; i < 5; i++) {
            host.dueBlock(40 + i, false, 1 + 8 * i, 1);
        }
        host.status("64 blocks are 512 longs", 1, Cmd.op(21).n(64).p(512).q(512).x(0), 5);
        host.status("too many longs behind P", 1, Cmd.op(21).n(64).p(528).q(512).x(0), 4);
        host.status("the others are 0 as yet", 1, Cmd.op(21).n(20).p(512).q(512).x(20), 0);
        host.dueCount(5, 25);
    }
}
