/** Terms: the ops of the other submission queues. */
public final class BlockOpsTest {
    private static final int FREE = 512;

    public static void main(String[] args) {
        flush();
        write();
        writeOneByOne();
        writeWithFlag();
        read();
        readFromCacheAndMedium();
        compare();
        zero();
        zeroTheFirstAndTheLast();
        compareAndWrite();
        compareManyAndWrite();
        whatIsStoredThen();
        pAndQBeginPages();
        compareAndWriteWithFlag();
        Check.end();
    }

    private static void flush() {
        Check.sentence("OPS of the others: 16: n blocks from X on are FLUSHED away: "
            + "all of the cache (n, X of no meaning)");
        for (long x : new long[] {0, 30, 63, 64, -1, Long.MAX_VALUE, Long.MIN_VALUE}) {
            for (int n : new int[] {1, 2, 256}) {
                Host host = Host.ready();
                host.fill(FREE, 16, 7);
                host.status("write", 1, Cmd.op(17).n(2).p(FREE).x(30), 0);
                host.dueFirstLong(30, 0, 7);
                host.dueFirstLong(31, 0, 15);
                host.status("flush " + n + " from " + x, 1, Cmd.op(16).n(n).p(-1).q(-1).x(x), 0);
                host.dueCount(0, 0);
                host.dueFirstLong(30, 7, 7);
                host.dueFirstLong(31, 15, 15);
                // they were stored once
                host.dueCount(5, 2);
            }
        }
    }

    private static void write() {
        Check.sentence("17: n blocks from X on are stored from the DATA, one by one");
        for (int x : new int[] {0, 20, 62}) {
            Host host = Host.ready();
            host.fill(FREE, 16, 7);
            host.status("write", 1, Cmd.op(17).n(2).p(FREE).x(x), 0);
            host.dueBlock(x - 1, false, 0, 0);
            host.dueBlock(x, false, 7, 1);
            host.dueBlock(x + 1, false, 15, 1);
            host.dueBlock(x + 2, false, 0, 0);
            host.dueBlock(x, true, 0, 0);
            host.dueMemory(FREE, 16, 7);
            host.dueCount(0, 2);
            host.dueCount(5, 2);
        }
    }

    private static void writeOneByOne() {
        Host host = Host.ready();
        for (int block : new int[] {24, 20, 30, 31, 32, 33}) {
            host.status("zero", 1, Cmd.op(20).x(block), 0);
        }
        host.fill(FREE, 16, 1);
        host.pokeAll(640, FREE, FREE);
        // 20 is in the cache; 21 pushes out 24, 22 then 20, 23 then 30, 24 then 31
        host.status("write 5", 1, Cmd.op(17).n(5).p(FREE).q(640).x(20), 0);
        host.dueCount(0, 6);
        for (int i = 0; i < 5; i++) {
            long v = i % 2 == 0 ? 1 : 9;
            host.dueFirstLong(20 + i, i == 0 ? v : 0, v);
        }
        Check.due("stop(true)", host.drive.stop(true), 6);
        host.dueFirstLong(20, 1, 1);
        host.dueFirstLong(24, 0, 0);
    }

    private static void writeWithFlag() {
        Check.sentence("FLAG: and FLUSHED then. 18");
        Host host = Host.ready();
        host.fill(FREE, 16, 7);
        host.status("write", 1, Cmd.op(17).p(FREE).x(20), 0);
        host.dueCount(0, 1);
        host.status("not done: not flushed", 1, Cmd.op(17).flag().p(-1).x(21), 4);
        host.dueCount(0, 1);
        host.status("write with FLAG", 1, Cmd.op(17).flag().p(FREE + 8).x(21), 0);
        host.dueCount(0, 0);
        host.dueBlock(20, true, 7, 1);
        host.dueBlock(21, true, 15, 1);
        host.status("without", 1, Cmd.op(17).p(FREE).x(22), 0);
        host.dueCount(0, 1);
        host.pokeAll(640, FREE, FREE, FREE);
        host.status("8 with FLAG", 1, Cmd.op(17).flag().n(8).p(FREE).q(640).x(30), 0);
        host.dueCount(0, 0);
        for (int i = 0; i < 8; i++) {
            host.dueFirstLong(30 + i, i % 2 == 0 ? 7 : 15, i % 2 == 0 ? 7 : 15);
        }
    }

    private static void read() {
        Check.sentence("18: they are read to the DATA");
        Host host = Host.ready();
        host.fill(FREE, 16, 7);
        host.status("write", 1, Cmd.op(17).n(2).p(FREE).x(20), 0);
        host.fill(599, 34, 900);
        host.status("read 1", 1, Cmd.op(18).p(600).x(21), 0);
        host.dueLong(599, 900);
        host.dueMemory(600, 8, 15);
        host.dueLong(608, 909);
        host.status("read 2", 1, Cmd.op(18).n(2).p(601).q(624).x(20), 0);
        host.dueLong(600, 15);
        host.dueMemory(601, 7, 7);
        host.dueMemory(608, 16, 909);
        host.dueMemory(624, 9, 14);
        host.dueCount(4, 3);
        host.dueCount(0, 2);
        host.dueBlock(20, false, 7, 1);
        host.fill(640, 8, 1);
        host.status("one that was never stored", 1, Cmd.op(18).p(640).x(63), 0);
        for (int i = 0; i < 8; i++) {
            host.dueLong(640 + i, 0);
        }
        host.dueCount(4, 4);
        host.status("FLAG does not flush", 1, Cmd.op(18).flag().p(640).x(20), 0);
        host.dueCount(0, 2);
    }

    private static void readFromCacheAndMedium() {
        Host host = Host.ready();
        host.fill(FREE, 16, 7);
        host.status("to the medium", 1, Cmd.op(17).flag().n(2).p(FREE).x(0), 0);
        host.fill(FREE, 16, 77);
        host.status("one of them to the cache", 1, Cmd.op(17).p(FREE).x(1), 0);
        host.status("read both", 1, Cmd.op(18).n(2).p(640).x(0), 0);
        host.dueMemory(640, 8, 7);
        host.dueMemory(648, 8, 77);
        host.status("read the last", 1, Cmd.op(18).n(2).p(640).x(62), 0);
        host.dueLong(640, 0);
        host.dueLong(655, 0);
    }

    private static void compare() {
        Check.sentence("19: they are compared with it: 5");
        Host host = Host.ready();
        host.fill(FREE, 16, 7);
        host.status("write", 1, Cmd.op(17).n(2).p(FREE).x(62), 0);
        host.status("the same", 1, Cmd.op(19).n(2).p(FREE).x(62), 0);
        for (int i = 0; i < 16; i++) {
            host.drive.poke(FREE + i, 7 + i + (1L << 40));
            host.status("other at " + i, 1, Cmd.op(19).n(2).p(FREE).x(62), 5);
            host.status("the first block alone", 1, Cmd.op(19).p(FREE).x(62), i < 8 ? 5 : 0);
            host.drive.poke(FREE + i, 7 + i);
        }
        host.status("the same", 1, Cmd.op(19).flag().n(2).p(FREE).x(62), 0);
        host.dueCount(0, 2);
        host.dueCount(4, 0);
        host.dueCount(5, 2);
        host.dueBlock(62, false, 7, 1);
        host.dueMemory(FREE, 16, 7);
    }

    private static void zero() {
        Check.sentence("20: they become 0, as stored; FLAG as above. 21");
        Host host = Host.ready();
        host.fill(FREE, 16, 7);
        host.status("write", 1, Cmd.op(17).flag().n(2).p(FREE).x(20), 0);
        host.status("zero", 1, Cmd.op(20).x(20), 0);
        host.dueCount(0, 1);
        host.dueCount(5, 3);
        host.dueBlock(20, true, 7, 1);
        host.dueBlock(20, false, 0, 0);
        host.dueBlock(21, false, 15, 1);
        host.status("zero with FLAG", 1, Cmd.op(20).flag().n(2).x(20), 0);
        host.dueCount(0, 0);
        host.dueBlock(20, true, 0, 0);
        host.dueBlock(21, true, 0, 0);
        host.status("not done: not flushed", 1, Cmd.op(17).p(FREE).x(5), 0);
        host.status("not done: not flushed", 1, Cmd.op(20).flag().n(2).x(63), 3);
        host.dueCount(0, 1);
        host.dueMemory(FREE, 16, 7);
    }

    private static void zeroTheFirstAndTheLast() {
        Host host = Host.ready();
        host.fill(FREE, 16, 7);
        host.status("write the first", 1, Cmd.op(17).n(2).p(FREE).x(0), 0);
        host.status("write the last", 1, Cmd.op(17).n(2).p(FREE).x(62), 0);
        host.status("zero", 1, Cmd.op(20).x(63), 0);
        host.status("zero", 1, Cmd.op(20).x(0), 0);
        host.dueBlock(0, false, 0, 0);
        host.dueBlock(1, false, 15, 1);
        host.dueBlock(62, false, 7, 1);
        host.dueBlock(63, false, 0, 0);
        host.dueCount(0, 4);
        host.status("zero all", 1, Cmd.op(20).flag().n(64).x(0), 0);
        host.dueBlock(1, true, 0, 0);
        host.dueBlock(62, true, 0, 0);
        host.dueCount(5, 70);
    }

    private static void compareAndWrite() {
        Check.sentence("21: as 17 if they are the same as the DATA is from P on, for n blocks");
        Host host = Host.ready();
        host.fill(FREE, 8, 7);
        host.fill(528, 8, 70);
        host.status("write", 1, Cmd.op(17).p(FREE).x(63), 0);
        host.status("not the same", 1, Cmd.op(21).p(528).q(FREE).x(63), 5);
        host.dueBlock(63, false, 7, 1);
        for (int i = 0; i < 8; i++) {
            host.drive.poke(FREE + i, -1);
            host.status("other at " + i, 1, Cmd.op(21).p(FREE).q(528).x(63), 5);
            host.drive.poke(FREE + i, 7 + i);
        }
        host.drive.poke(FREE + 8, 99);
        host.status("what is behind does not matter", 1, Cmd.op(21).p(FREE).q(528).x(63), 0);
        host.dueCount(0, 1);
        host.dueCount(5, 2);
        host.dueCount(4, 0);
        host.dueBlock(63, false, 70, 1);
        host.dueBlock(63, true, 0, 0);
        host.dueBlock(62, false, 0, 0);
        host.dueMemory(FREE, 8, 7);
    }

    private static void compareManyAndWrite() {
        Host host = Host.ready();
        host.fill(672, 40, 1);
        host.drive.poke(FREE + 39, 1);
        host.status("other in the last of 5", 1, Cmd.op(21).n(5).p(FREE).q(672).x(40), 5);
        host.status("4 are the same", 1, Cmd.op(21).n(4).p(FREE).q(672).x(50), 0);
        host.drive.poke(FREE + 39, 0);
        host.status("5 blocks, no list", 1, Cmd.op(21).n(5).p(FREE).q(672).x(40), 0);
        for (int i = 0; i < 5; i++) {
            host.dueBlock(40 + i, false, 1 + 8 * i, 1);
        }
        host.dueBlock(45, false, 0, 0);
        host.dueCount(5, 9);
        Host all = Host.ready();
        all.status("64 blocks are 512 longs", 1, Cmd.op(21).n(64).p(512).q(512).x(0), 0);
        all.dueCount(5, 64);
        all.drive.poke(1023, 1);
        all.status("other in the last of 64", 1, Cmd.op(21).n(64).p(512).q(512).x(0), 5);
    }

    private static void whatIsStoredThen() {
        Check.sentence("and what is stored then is from Q on");
        Host host = Host.ready();
        host.fill(640, 24, 500);
        host.status("3 blocks from Q", 1, Cmd.op(21).n(3).p(FREE).q(640).x(10), 0);
        for (int i = 0; i < 3; i++) {
            host.dueBlock(10 + i, false, 500 + 8 * i, 1);
        }
        host.status("P and Q the same", 1, Cmd.op(21).n(3).p(640).q(640).x(10), 0);
        host.dueBlock(12, false, 516, 1);
        host.status("Q within what P is", 1, Cmd.op(21).n(3).p(640).q(656).x(10), 0);
        host.dueBlock(10, false, 516, 1);
        host.dueBlock(11, false, 0, 0);
        host.status("and now they are not the same", 1, Cmd.op(21).n(3).p(640).q(656).x(10), 5);
        host.dueBlock(10, false, 516, 1);
    }

    private static void pAndQBeginPages() {
        Check.sentence("(P, Q begin pages and 8 n longs are in memory from each, else 4");
        long[] no = {-1, -16, 1, 8, 15, 17, 511, 513, 520, 1023, 1024, 1040, 1L << 32,
            Long.MAX_VALUE - 15, Long.MIN_VALUE};
        Host host = Host.ready();
        for (long address : no) {
            host.status("P " + address, 1, Cmd.op(21).p(address).q(FREE).x(20), 4);
            host.status("Q " + address, 1, Cmd.op(21).p(FREE).q(address).x(20), 4);
        }
        host.status("not the same, but Q wrong", 1, Cmd.op(21).p(0).q(1).x(20), 4);
        host.dueCount(5, 0);
        host.status("pages 320 and 336", 1, Cmd.op(21).p(320).q(336).x(20), 0);
        host.status("page 0", 1, Cmd.op(21).p(FREE).q(0).x(21), 0);
        for (int n = 1; n <= 6; n++) {
            // from 1008 on there are 16 longs, from 992 on 32
            host.status("P 1008, n " + n, 1, Cmd.op(21).n(n).p(1008).q(FREE).x(40), n <= 2 ? 0 : 4);
            host.status("Q 1008, n " + n, 1, Cmd.op(21).n(n).p(FREE).q(1008).x(40), n <= 2 ? 0 : 4);
            host.status("P 992, n " + n, 1, Cmd.op(21).n(n).p(992).q(FREE).x(40), n <= 4 ? 0 : 4);
        }
        host.dueCount(5, 2 + 3 + 3 + 10);
        Host all = Host.ready();
        all.status("64 blocks from P", 1, Cmd.op(21).n(64).p(528).q(512).x(0), 4);
        all.status("64 blocks from Q", 1, Cmd.op(21).n(64).p(512).q(528).x(0), 4);
        all.status("62 blocks from both", 1, Cmd.op(21).n(62).p(528).q(528).x(0), 0);
        all.status("63 blocks from both", 1, Cmd.op(21).n(63).p(528).q(528).x(0), 4);
        all.dueCount(5, 62);
    }

    private static void compareAndWriteWithFlag() {
        Check.sentence("FLAG as above).");
        Host host = Host.ready();
        host.fill(FREE, 8, 7);
        host.status("not the same: not flushed", 1, Cmd.op(20).x(3), 0);
        host.status("not the same: not flushed", 1, Cmd.op(21).flag().p(FREE).q(FREE).x(20), 5);
        host.dueCount(0, 1);
        host.status("without FLAG", 1, Cmd.op(21).p(528).q(FREE).x(20), 0);
        host.dueCount(0, 2);
        host.dueBlock(20, true, 0, 0);
        host.status("with FLAG", 1, Cmd.op(21).flag().p(FREE).q(FREE).x(20), 0);
        host.dueCount(0, 0);
        host.dueBlock(20, true, 7, 1);
    }
}
