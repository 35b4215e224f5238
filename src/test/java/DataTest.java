/** Terms: DATA, by way of pages and lists of pages. */
public final class DataTest {
    private static final int FREE = 512;
    private static final int LIST = 704;

    public static void main(String[] args) {
        pagesOfSixteen();
        fromPToTheEndOfItsPage();
        twoBlocksFillAPage();
        qWithoutMeaning();
        atMostOnePageMore();
        oneLongMoreThanAPage();
        asManyPagesAsAreNeeded();
        theLongestList();
        pagesOfAListInAnyOrder();
        listWithinThePageOfQ();
        addressesBeginPages();
        addressesAreInMemory();
        listIsReadBeforeDataMove();
        longByLong();
        dataOverQueues();
        Check.end();
    }

    private static Cmd write(int n, long p, long q) {
        return Cmd.op(17).n(n).p(p).q(q).x(10);
    }

    private static Cmd read(int n, long p, long q) {
        return Cmd.op(18).n(n).p(p).q(q).x(10);
    }

    /** Blocks 10 .. 10 + n - 1 hold the longs v, v + 1 .. */
    private static void dueBlocks(Host host, int n, long v) {
        for (int i = 0; i < n; i++) {
            host.dueBlock(10 + i, false, v + 8 * i, 1);
        }
    }

    /** With 6 blocks from 10 on, which hold 300, 301 .. 347. */
    private static Host withSixBlocks() {
        Host host = Host.ready();
        host.fill(FREE, 48, 300);
        host.pokeAll(LIST, FREE + 16, FREE + 32);
        host.status("write", 1, write(6, FREE, LIST), 0);
        return host;
    }

    private static void pagesOfSixteen() {
        Check.sentence("PAGES of 16, the first at 0");
        Host host = Host.ready();
        // one block from place 8 on ends with its page; from 9 on it needs Q
        for (int page : new int[] {320, 528, 1008}) {
            for (int place = 7; place <= 10; place++) {
                host.status("from " + (page + place), 1, read(1, page + place, -1),
                    place <= 8 ? 0 : 4);
            }
        }
        // the page of Q: 0 begins one, and so do 16, 32 ..
        for (int q = 1006; q <= 1025; q++) {
            host.status("Q " + q, 1, read(1, 1023, q), q == 1008 ? 0 : 4);
        }
        host.status("Q -16", 1, read(1, 1023, -16), 4);
        host.status("Q 0", 1, read(1, 1023, 0), 0);
        host.status("Q 1", 1, read(1, 1023, 1), 4);
    }

    private static void fromPToTheEndOfItsPage() {
        Check.sentence("DATA of n blocks, 8 n longs: the first ones from address P on, "
            + "to the end of its page");
        for (int place = 0; place <= 15; place++) {
            Host host = Host.ready();
            host.fill(FREE, 16, 300);
            host.fill(640, 16, 316);
            int here = Math.min(8, 16 - place);
            host.status("write from place " + place, 1, write(1, FREE + place, 640), 0);
            dueBlocks(host, 1, 300 + place);
            host.fill(FREE, 32, -100);
            host.fill(656, 16, -500);
            host.status("read to place " + place, 1, read(1, FREE + place, 656), 0);
            for (int i = 0; i < 16; i++) {
                boolean in = i >= place && i < place + 8;
                host.dueLong(FREE + i, in ? 300 + i : -100 + i);
            }
            host.dueMemory(FREE + 16, 16, -84);
            for (int i = 0; i < 16; i++) {
                host.dueLong(656 + i, i < 8 - here ? 300 + place + here + i : -500 + i);
            }
        }
    }

    private static void twoBlocksFillAPage() {
        Host host = Host.ready();
        host.fill(FREE, 16, 300);
        host.status("2 blocks from its begin", 1, write(2, FREE, -1), 0);
        dueBlocks(host, 2, 300);
        host.status("2 blocks, one long on", 1, write(2, FREE + 1, -1), 4);
        host.status("2 blocks from the last page", 1, read(2, 1008, -1), 0);
        host.dueMemory(1008, 16, 300);
        host.dueLong(1007, 0);
        host.status("2 blocks from the first page", 1, read(2, 0, -1), 0);
        host.dueMemory(0, 16, 300);
    }

    private static void qWithoutMeaning() {
        Check.sentence("if there are more (else Q has no meaning)");
        long[] odd = {-1, 1, 1024, Long.MAX_VALUE, Long.MIN_VALUE};
        for (int op = 17; op <= 19; op++) {
            Host host = Host.ready();
            for (long q : odd) {
                host.status("op " + op + ", Q " + q, 1, Cmd.op(op).p(FREE + 8).q(q), 0);
                host.status("op " + op + ", Q " + q, 1, Cmd.op(op).n(2).p(FREE).q(q), 0);
                host.status("op " + op + ", Q " + q, 1, Cmd.op(op).p(FREE + 9).q(q), 4);
                host.status("op " + op + ", Q " + q, 1, Cmd.op(op).n(2).p(FREE + 1).q(q), 4);
            }
        }
        Host host = Host.begun();
        for (long q : odd) {
            host.status("op 6, Q " + q, 0, Cmd.op(6).p(FREE + 8).q(q), 0);
            host.status("op 6, Q " + q, 0, Cmd.op(6).p(FREE + 9).q(q), 4);
        }
    }

    private static void atMostOnePageMore() {
        Check.sentence("if they are at most one page: from Q on");
        // 24 longs: 1 from P and 16 from Q are too few, 8 and 16 are as many
        Host host = Host.ready();
        host.fill(520, 8, 300);
        host.fill(640, 16, 308);
        host.status("16 longs from Q", 1, write(3, 520, 640), 0);
        dueBlocks(host, 3, 300);
        // 16 longs: 15 from P and 1 from Q
        host.fill(545, 15, 500);
        host.fill(656, 2, 515);
        host.status("1 long from Q", 1, write(2, 545, 656), 0);
        dueBlocks(host, 2, 500);
        host.fill(768, 32, -1000);
        host.status("15 longs from Q", 1, read(3, 775, 784), 0);
        host.dueMemory(768, 7, -1000);
        host.dueMemory(775, 9, 500);
        host.dueMemory(784, 7, 509);
        host.dueMemory(791, 8, 316);
        host.dueLong(799, -969);
    }

    /** 24 longs from place 9 on: 17 are left, and Q is a list. */
    private static void oneLongMoreThanAPage() {
        Check.sentence("else Q is the place of a LIST");
        Host host = withSixBlocks();
        host.pokeAll(LIST, 720, 752);
        host.status("17 longs by a list", 1, read(3, 537, LIST), 0);
        host.dueMemory(537, 7, 300);
        host.dueMemory(720, 16, 307);
        host.dueLong(752, 323);
        host.dueLong(753, 0);
        host.dueLong(LIST, 720);
        host.status("16 longs from Q itself", 1, read(3, 536, LIST), 0);
        host.dueMemory(LIST, 16, 308);
    }

    private static void asManyPagesAsAreNeeded() {
        Check.sentence("addresses of pages, as many as are needed, from Q on");
        // what is left behind P: 32 longs are 2 pages, 33 are 3, 40 are 3, 47 are 3
        int[][] cases = {{6, 0, 2}, {6, 1, 3}, {6, 8, 3}, {6, 15, 3}, {4, 0, 0}, {4, 15, 2},
            {4, 1, 2}, {5, 8, 2}, {5, 9, 3}};
        for (int[] one : cases) {
            int n = one[0];
            int p = 800 + one[1];
            int needed = one[2];
            Host host = withSixBlocks();
            host.pokeAll(LIST, 848, 880, 912, 7);
            if (needed > 0) {
                host.drive.poke(LIST + needed, 3);
                host.status("what is behind the list does not matter", 1, read(n, p, LIST), 0);
                host.dueMemory(p, 16 - one[1], 300);
                int left = 8 * n - 16 + one[1];
                for (int i = 0; i < left; i++) {
                    host.dueLong(848 + i / 16 * 32 + i % 16, 300 + 16 - one[1] + i);
                }
                host.dueLong(848 + left / 16 * 32 + left % 16, 0);
                host.drive.poke(LIST + needed - 1, 3);
                host.status("the last that is needed", 1, read(n, p, LIST), 4);
            } else {
                host.pokeAll(LIST, 3, 3);
                host.status("no list is needed", 1, read(n, p, LIST), 0);
                host.dueMemory(LIST, 16, 316);
            }
        }
    }

    /** 34 blocks are 272 longs: 17 pages, 16 of them in the list. */
    private static void theLongestList() {
        Host host = Host.ready();
        for (int i = 0; i < 16; i++) {
            host.drive.poke(496 + i, 1008 - 16 * i);
        }
        host.fill(768, 16, 5000);
        host.fill(1008, 16, 6000);
        host.status("34 blocks", 1, Cmd.op(17).n(34).p(512).q(496).x(30), 0);
        host.dueBlock(32, true, 6000, 1);
        host.dueBlock(33, true, 6008, 1);
        host.dueBlock(61, false, 0, 0);
        host.dueBlock(62, false, 5000, 1);
        host.dueBlock(63, false, 5008, 1);
        host.dueCount(0, 6);
        host.status("34 blocks, one long more", 1, Cmd.op(17).n(34).p(513).q(496).x(30), 4);
        host.status("33 blocks, from the middle", 1, Cmd.op(18).n(33).p(520).q(496).x(30), 0);
        host.status("33 blocks, one long more", 1, Cmd.op(18).n(33).p(521).q(496).x(30), 4);
        host.status("35 blocks", 1, Cmd.op(17).n(35).p(512).q(496).x(0), 4);
        host.status("64 blocks", 1, Cmd.op(17).n(64).p(512).q(496).x(0), 4);
        host.dueCount(4, 33);
        host.dueCount(5, 34);
    }

    private static void pagesOfAListInAnyOrder() {
        Host host = Host.ready();
        host.fill(512, 16, 300);
        host.fill(560, 16, 316);
        host.fill(544, 16, 332);
        host.pokeAll(718, 560, 544);
        host.status("write", 1, write(6, 512, 718), 0);
        dueBlocks(host, 6, 300);
        host.pokeAll(800, 912, 880, 944);
        host.status("read", 1, read(6, 847, 800), 0);
        host.dueLong(847, 300);
        host.dueMemory(912, 16, 301);
        host.dueMemory(880, 16, 317);
        host.dueMemory(944, 15, 333);
        host.dueLong(959, 0);
        host.status("compared by the list", 1, Cmd.op(19).n(6).p(847).q(800).x(10), 0);
        host.drive.poke(958, 0);
        host.status("not the same in the last long", 1, Cmd.op(19).n(6).p(847).q(800).x(10), 5);
    }

    private static void listWithinThePageOfQ() {
        Check.sentence("Q itself need not begin a page; all of the list within the page of Q");
        // a list of 2, of 3 and of 9: 6 blocks from a begin, 6 from place 15, 20 from a begin
        int[][] cases = {{6, FREE, 2}, {6, FREE + 15, 3}, {20, FREE, 9}, {34, FREE, 16}};
        for (int[] one : cases) {
            for (int page : new int[] {LIST, 1008}) {
                Host host = Host.ready();
                for (int i = 0; i < 16; i++) {
                    host.drive.poke(page + i, 640);
                    host.drive.poke(page + 16 + i, 640);
                }
                int last = 16 - one[2];
                for (int place = 0; place <= 15; place++) {
                    host.status("a list of " + one[2] + " from place " + place, 1,
                        write(one[0], one[1], page + place), place <= last ? 0 : 4);
                }
            }
        }
    }

    private static void addressesBeginPages() {
        Check.sentence("All addresses but P and that of the list begin a page");
        Host host = Host.ready();
        for (int off = -1; off <= 16; off++) {
            int status = off % 16 == 0 ? 0 : 4;
            host.status("Q " + (640 + off), 1, read(1, 521, 640 + off), status);
            host.pokeAll(LIST, 640 + off, 656);
            host.status("first page " + (640 + off), 1, read(6, 512, LIST), status);
        }
        Host other = Host.ready();
        for (int off = -1; off <= 16; off++) {
            int status = off % 16 == 0 ? 0 : 4;
            other.pokeAll(LIST, 656, 640 + off);
            other.status("last page " + (640 + off), 1, read(6, 512, LIST), status);
            other.status("P may be any", 1, read(1, 640 + off, 640), 0);
        }
    }

    private static void addressesAreInMemory() {
        Check.sentence("all are in memory: else STATUS 4");
        long[] nowhere = {-1, -16, -1024, 1024, 1040, 2048, 1L << 32, 1L << 32 | FREE, 1L << 62,
            Long.MAX_VALUE, Long.MAX_VALUE - 15, Long.MIN_VALUE, Long.MIN_VALUE + FREE};
        Host ofP = Host.ready();
        Host ofPages = Host.ready();
        for (long address : nowhere) {
            ofP.status("P " + address, 1, write(1, address, FREE), 4);
            ofP.status("P " + address + " with a list", 1, write(6, address, LIST), 4);
            ofP.status("Q " + address, 1, write(1, FREE + 9, address), 4);
            ofP.status("list at " + address, 1, write(6, FREE, address), 4);
            ofPages.pokeAll(LIST, address, FREE);
            ofPages.status("first page " + address, 1, write(6, FREE, LIST), 4);
            ofPages.pokeAll(LIST, FREE, address);
            ofPages.status("last page " + address, 1, write(6, FREE, LIST), 4);
        }
        ofP.dueCount(5, 0);
        ofPages.dueCount(5, 0);
        theLastAddresses();
    }

    private static void theLastAddresses() {
        Host host = Host.ready();
        host.fill(1008, 16, 300);
        host.status("P 1023", 1, write(1, 1023, 1008), 0);
        Check.due("block(10, 0, false)", host.drive.block(10, 0, false), 315);
        Check.due("block(10, 1, false)", host.drive.block(10, 1, false), 300);
        host.status("P 0", 1, write(1, 0, -1), 0);
        host.status("Q 0", 1, write(1, 1023, 0), 0);
        host.pokeAll(LIST, 1008, 0);
        host.status("pages 1008 and 0", 1, write(6, 1008, LIST), 0);
        host.dueBlock(12, false, 300, 1);
        host.pokeAll(1022, FREE, FREE);
        host.status("list at 1022", 1, write(6, FREE, 1022), 0);
        host.status("list at 1023", 1, write(6, FREE, 1023), 4);
        host.pokeAll(0, FREE, FREE);
        host.status("list at 0", 1, write(6, FREE, 0), 0);
    }

    private static void listIsReadBeforeDataMove() {
        Check.sentence("Lists are read before data move");
        Host host = withSixBlocks();
        host.pokeAll(640, 656, 688);
        // the first longs go over the list itself
        host.status("read over the list", 1, read(6, 640, 640), 0);
        host.dueMemory(640, 16, 300);
        host.dueMemory(656, 16, 316);
        host.dueMemory(688, 16, 332);
        // and here the first page of the list is that of the list
        host.pokeAll(750, 736, 768);
        host.status("read over the list, later", 1, read(6, 800, 750), 0);
        host.dueMemory(800, 16, 300);
        host.dueMemory(736, 16, 316);
        host.dueMemory(768, 16, 332);
    }

    private static void longByLong() {
        Check.sentence("data move long by long, from the first on");
        Host host = withSixBlocks();
        host.pokeAll(LIST, 640, 640, 640);
        // 4 longs at 652, then 16, 16 and 12 at 640: what comes later stays
        host.status("a page named three times", 1, read(6, 652, LIST), 0);
        host.dueMemory(640, 12, 336);
        host.dueMemory(652, 4, 332);
        host.status("P and Q in one page", 1, read(2, 660, 656), 0);
        host.dueMemory(656, 4, 312);
        host.dueMemory(660, 12, 300);
        host.status("Q over P", 1, read(2, 681, 672), 0);
        host.dueMemory(672, 9, 307);
        host.dueMemory(681, 7, 300);
    }

    private static void dataOverQueues() {
        Host host = Host.ready();
        Check.due("read over the place of its answer",
            host.send(1, read(1, Host.answers(1), -1).id(5)), 5 | 1 << 16 | 1 << 20 | 1L << 36);
        host.fill(FREE, 8, 0);
        host.drive.poke(FREE, Cmd.op(16).id(77).longs()[0]);
        host.status("write a command", 1, write(1, FREE, -1), 0);
        host.place(1, read(1, Host.base(1) + 12, 848));
        host.place(1, Cmd.op(99));
        host.dueRun(9, 2);
        host.take(1);
        Check.due("the command that was read there", host.take(1),
            77 | 1 << 16 | 4 << 20 | 1L << 36);
    }
}
