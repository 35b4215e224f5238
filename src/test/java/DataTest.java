/** Terms: DATA, by way of pages and lists of pages. */
public final class DataTest {
    public static void main(String[] args) {
        oneBlockInItsPage();
        oneBlockOverTwoPages();
        upToTheLongOfOnePageMore();
        byAList();
        listsThatAreWrong();
        theLongestList();
        listIsReadBeforeDataMove();
        laterLongsWin();
        dataOverQueues();
        Check.end();
    }

    private static Cmd write(int n, long p, long q) {
        return Cmd.op(17).n(n).p(p).q(q).x(10);
    }

    private static Cmd read(int n, long p, long q) {
        return Cmd.op(18).n(n).p(p).q(q).x(10);
    }

    private static void oneBlockInItsPage() {
        Host host = Host.ready();
        host.fill(512, 16, 300);
        for (int place = 0; place <= 8; place++) {
            host.status("from " + place, 1, write(1, 512 + place, -1), 0);
            host.dueBlock(10, false, 300 + place, 1);
        }
        for (long p : new long[] {-1, 1024, 1L << 32, Long.MAX_VALUE, Long.MIN_VALUE}) {
            host.status("P " + p, 1, write(1, p, 512), 4);
        }
        host.status("the last longs", 1, read(1, 1016, -1), 0);
        host.dueMemory(1016, 8, 308);
    }

    private static void oneBlockOverTwoPages() {
        Host host = Host.ready();
        host.fill(521, 7, 300);
        host.fill(640, 1, 307);
        host.status("one long of Q", 1, write(1, 521, 640), 0);
        host.dueBlock(10, false, 300, 1);
        for (long q : new long[] {641, 648, -16, 1024, 1L << 32, Long.MIN_VALUE}) {
            host.status("Q " + q, 1, write(1, 521, q), 4);
        }
        host.status("from the last long", 1, read(1, 1023, 0), 0);
        Check.due("peek(1023)", host.drive.peek(1023), 300);
        host.dueMemory(0, 7, 301);
        host.status("Q the last page", 1, read(1, 527, 1008), 0);
        Check.due("peek(527)", host.drive.peek(527), 300);
        host.dueMemory(1008, 7, 301);
    }

    /** 3 blocks are 24 longs: from place 8 on 16 of them are left, from 9 on 17. */
    private static void upToTheLongOfOnePageMore() {
        Host host = Host.ready();
        host.fill(520, 8, 300);
        host.fill(640, 16, 308);
        host.status("16 longs from Q", 1, write(3, 520, 640), 0);
        for (int i = 0; i < 3; i++) {
            host.dueBlock(10 + i, false, 300 + 8 * i, 1);
        }
        host.drive.poke(700, 720);
        host.drive.poke(701, 752);
        host.status("17 longs by a list of 2", 1, read(3, 537, 700), 0);
        host.dueMemory(537, 7, 300);
        host.dueMemory(720, 16, 307);
        host.dueMemory(752, 1, 323);
        Check.due("peek(753)", host.drive.peek(753), 0);
    }

    private static void byAList() {
        Host host = Host.ready();
        host.fill(512, 16, 300);
        host.fill(560, 16, 316);
        host.fill(544, 16, 332);
        host.drive.poke(718, 560);
        host.drive.poke(719, 544);
        host.status("a list at the end of its page", 1, write(6, 512, 718), 0);
        for (int i = 0; i < 6; i++) {
            host.dueBlock(10 + i, false, 300 + 8 * i, 1);
        }
        host.drive.poke(800, 912);
        host.drive.poke(801, 880);
        host.drive.poke(802, 944);
        host.drive.poke(803, 7);
        host.status("what is behind the list does not matter", 1, read(6, 847, 800), 0);
        host.dueMemory(847, 1, 300);
        host.dueMemory(912, 16, 301);
        host.dueMemory(880, 16, 317);
        host.dueMemory(944, 15, 333);
        Check.due("peek(959)", host.drive.peek(959), 0);
        host.status("compared by the list", 1, Cmd.op(19).n(6).p(847).q(800).x(10), 0);
        host.drive.poke(958, 0);
        host.status("not the same in the last long", 1, Cmd.op(19).n(6).p(847).q(800).x(10), 5);
    }

    private static void listsThatAreWrong() {
        Host host = Host.ready();
        host.drive.poke(703, 512);
        host.drive.poke(704, 512);
        host.status("over the end of its page", 1, write(6, 512, 703), 4);
        host.drive.poke(1022, 512);
        host.drive.poke(1023, 528);
        host.status("at the end of memory", 1, write(6, 512, 1022), 0);
        host.status("over the end of memory", 1, write(6, 512, 1023), 4);
        for (long q : new long[] {1024, -1, 1L << 32 | 704, Long.MAX_VALUE, Long.MIN_VALUE}) {
            host.status("list at " + q, 1, write(6, 512, q), 4);
        }
        long[] wrong = {1, 520, 1024, -16, 1L << 32, Long.MAX_VALUE - 15, Long.MIN_VALUE};
        for (long page : wrong) {
            host.drive.poke(704, page);
            host.drive.poke(705, 528);
            host.status("first page " + page, 1, write(6, 512, 704), 4);
            host.drive.poke(704, 528);
            host.drive.poke(705, page);
            host.status("last page " + page, 1, write(6, 512, 704), 4);
        }
        host.dueCount(5, 6);
        host.status("P wrong, the list right", 1, write(6, -1, 1022), 4);
    }

    /** 34 blocks are 272 longs: 17 pages, 16 of them in the list. */
    private static void theLongestList() {
        Host host = Host.ready();
        for (int i = 0; i < 16; i++) {
            host.drive.poke(496 + i, 1008 - 16 * i);
        }
        host.fill(768, 16, 5000);
        host.fill(1008, 16, 6000);
        host.status("34 blocks", 1, Cmd.op(17).n(34).p(512).q(496).x(30), 0);
        host.dueBlock(32, true, 6000, 1);
        host.dueBlock(33, true, 6008, 1);
        host.dueBlock(61, false, 0, 0);
        host.dueBlock(62, false, 5000, 1);
        host.dueBlock(63, false, 5008, 1);
        host.dueCount(0, 6);
        host.status("34 blocks, one long more", 1, Cmd.op(17).n(34).p(513).q(496).x(30), 4);
        host.status("33 blocks, from the middle", 1, Cmd.op(18).n(33).p(520).q(496).x(30), 0);
        host.status("35 blocks", 1, Cmd.op(17).n(35).p(512).q(496).x(0), 4);
        host.status("64 blocks", 1, Cmd.op(17).n(64).p(512).q(496).x(0), 4);
        host.dueCount(4, 33);
        host.dueCount(5, 34);
    }

    private static void listIsReadBeforeDataMove() {
        Host host = Host.ready();
        host.fill(512, 48, 300);
        host.drive.poke(704, 528);
        host.drive.poke(705, 544);
        host.status("write", 1, write(6, 512, 704), 0);
        host.drive.poke(640, 656);
        host.drive.poke(641, 688);
        // the first longs go over the list itself
        host.status("read over the list", 1, read(6, 640, 640), 0);
        host.dueMemory(640, 16, 300);
        host.dueMemory(656, 16, 316);
        host.dueMemory(688, 16, 332);
    }

    private static void laterLongsWin() {
        Host host = Host.ready();
        host.fill(512, 48, 300);
        host.drive.poke(704, 528);
        host.drive.poke(705, 544);
        host.status("write", 1, write(6, 512, 704), 0);
        for (int i = 0; i < 3; i++) {
            host.drive.poke(704 + i, 640);
        }
        // 4 longs at 652, then 16, 16 and 12 at 640
        host.status("a page named three times", 1, read(6, 652, 704), 0);
        host.dueMemory(640, 12, 336);
        host.dueMemory(652, 4, 332);
    }

    private static void dataOverQueues() {
        Host host = Host.ready();
        Check.due("read over the place of its answer",
            host.send(1, read(1, Host.answers(1), -1).id(5)), 5 | 1 << 16 | 1 << 20 | 1L << 36);
        host.fill(512, 8, 0);
        long[] flush = Cmd.op(16).id(77).longs();
        host.drive.poke(512, flush[0]);
        host.status("write a command", 1, write(1, 512, -1), 0);
        host.place(1, read(1, Host.base(1) + 12, 848));
        host.place(1, Cmd.op(99));
        Check.due("run(9)", host.drive.run(9), 2);
        host.take(1);
        Check.due("the command that was read there", host.take(1),
            77 | 1 << 16 | 4 << 20 | 1L << 36);
    }
}
