/** Terms: the blocks on the medium, and those in the cache by the order in which they came. */
public final class CacheTest {
    private static final int FREE = 512;

    public static void main(String[] args) {
        blocksOnTheMedium();
        theFirstAndTheLastBlock();
        atMostSix();
        orderIsThatOfComing();
        readsFindTheCacheFirst();
        readsFindItAtBothEndsOfTheCache();
        readsDoNotChangeTheCache();
        aBlockKeepsItsPlace();
        aNewBlockComesLast();
        theSeventhSendsTheFirstAway();
        oneCommandSendsManyAway();
        oneCommandSendsItsOwnBlocksAway();
        flushed();
        withCachingOff();
        Check.end();
    }

    private static void store(Host host, int block, long v) {
        host.drive.poke(FREE, v);
        host.status("store block " + block, 1, Cmd.op(17).p(FREE).x(block), 0);
    }

    /** Blocks 50, 49 .. in the cache, with 100, 101 .. in them. */
    private static Host withCached(int blocks) {
        Host host = Host.ready();
        for (int i = 0; i < blocks; i++) {
            store(host, 50 - i, 100 + i);
        }
        host.dueCount(0, blocks);
        return host;
    }

    private static void blocksOnTheMedium() {
        Check.sentence("THE DRIVE has 64 BLOCKS of 8 longs, 0 at first, on its MEDIUM");
        for (boolean medium : new boolean[] {true, false}) {
            Host host = Host.off();
            for (int block = 0; block < 64; block++) {
                host.dueBlock(block, medium, 0, 0);
            }
        }
    }

    private static void theFirstAndTheLastBlock() {
        Host host = Host.ready();
        host.fill(FREE, 32, 100);
        host.status("blocks 0 and 1", 1, Cmd.op(17).flag().n(2).p(FREE).x(0), 0);
        host.status("blocks 62 and 63", 1, Cmd.op(17).flag().n(2).p(FREE + 16).x(62), 0);
        host.status("block -1", 1, Cmd.op(17).flag().p(FREE).x(-1), 3);
        host.status("block 64", 1, Cmd.op(17).flag().p(FREE).x(64), 3);
        host.dueBlock(0, true, 100, 1);
        host.dueBlock(1, true, 108, 1);
        host.dueBlock(2, true, 0, 0);
        host.dueBlock(61, true, 0, 0);
        host.dueBlock(62, true, 116, 1);
        host.dueBlock(63, true, 124, 1);
        host.dueBlock(64, true, 0, 0);
        host.dueBlock(-1, true, 0, 0);
    }

    private static void atMostSix() {
        Check.sentence("and a CACHE of at most 6 blocks, by the order in which they came");
        Host host = Host.ready();
        for (int stored = 1; stored <= 9; stored++) {
            store(host, 5 * stored, stored);
            host.dueCount(0, Math.min(stored, 6));
            for (int i = 1; i <= stored; i++) {
                host.dueFirstLong(5 * i, i <= stored - 6 ? i : 0, i);
            }
        }
    }

    private static void orderIsThatOfComing() {
        int[] came = {7, 63, 0, 20, 19, 62};
        Host host = Host.ready();
        for (int block : came) {
            store(host, block, block + 100);
        }
        for (int gone = 0; gone < 6; gone++) {
            host.dueFirstLong(came[gone], 0, came[gone] + 100);
            store(host, 30 + gone, 1);
            host.dueFirstLong(came[gone], came[gone] + 100, came[gone] + 100);
            host.dueCount(0, 6);
        }
    }

    private static void readsFindTheCacheFirst() {
        Check.sentence("a read finds a block there first");
        Host host = Host.ready();
        host.fill(FREE, 8, 300);
        host.status("to the medium", 1, Cmd.op(17).flag().p(FREE).x(9), 0);
        host.fill(FREE, 8, 400);
        host.status("to the cache", 1, Cmd.op(17).p(FREE).x(9), 0);
        host.dueBlock(9, true, 300, 1);
        host.dueBlock(9, false, 400, 1);
        host.status("read", 1, Cmd.op(18).p(640).x(9), 0);
        host.dueMemory(640, 8, 400);
        host.status("compared", 1, Cmd.op(19).p(640).x(9), 0);
        host.fill(656, 8, 300);
        host.status("compared with what is on the medium", 1, Cmd.op(19).p(656).x(9), 5);
        host.status("op 21, with what is on the medium", 1, Cmd.op(21).p(656).q(640).x(9), 5);
        host.status("op 21, with what is in the cache", 1, Cmd.op(21).p(640).q(656).x(9), 0);
        host.dueBlock(9, false, 300, 1);
    }

    private static void readsFindItAtBothEndsOfTheCache() {
        Host host = withCached(6);
        for (int i = 0; i < 6; i++) {
            host.status("read", 1, Cmd.op(18).p(640).x(50 - i), 0);
            host.dueLong(640, 100 + i);
        }
        store(host, 1, 1);
        host.status("read what was sent away", 1, Cmd.op(18).p(640).x(50), 0);
        host.dueLong(640, 100);
        host.status("read the first now", 1, Cmd.op(18).p(640).x(49), 0);
        host.dueLong(640, 101);
        host.status("read what came last", 1, Cmd.op(18).p(640).x(1), 0);
        host.dueLong(640, 1);
        host.status("read what never came", 1, Cmd.op(18).p(640).x(2), 0);
        host.dueLong(640, 0);
    }

    private static void readsDoNotChangeTheCache() {
        Host host = withCached(6);
        host.status("read the first", 1, Cmd.op(18).p(640).x(50), 0);
        host.status("compare the first", 1, Cmd.op(19).p(640).x(50), 0);
        host.status("read what is not there", 1, Cmd.op(18).p(656).x(1), 0);
        host.status("compare what is not there", 1, Cmd.op(19).p(656).x(1), 0);
        host.dueCount(0, 6);
        host.dueFirstLong(50, 0, 100);
        store(host, 1, 1);
        host.dueFirstLong(50, 100, 100);
        host.dueFirstLong(49, 0, 101);
        Host few = withCached(2);
        few.status("read what is not there", 1, Cmd.op(18).p(656).x(1), 0);
        few.status("read what is there", 1, Cmd.op(18).p(656).x(50), 0);
        few.dueCount(0, 2);
    }

    private static void aBlockKeepsItsPlace() {
        Check.sentence("A block that is STORED replaces itself in the cache, in its place, "
            + "or comes last");
        // the first, one in the middle and the last of a full cache
        for (int again : new int[] {0, 3, 5}) {
            Host host = withCached(6);
            store(host, 50 - again, 900);
            host.dueCount(0, 6);
            host.dueFirstLong(50 - again, 0, 900);
            for (int gone = 0; gone < 6; gone++) {
                long v = gone == again ? 900 : 100 + gone;
                host.dueFirstLong(50 - gone, 0, v);
                store(host, 1 + gone, 1);
                host.dueFirstLong(50 - gone, v, v);
            }
        }
        Host host = withCached(1);
        store(host, 50, 900);
        host.dueCount(0, 1);
        host.dueFirstLong(50, 0, 900);
    }

    private static void aNewBlockComesLast() {
        Host host = withCached(5);
        store(host, 1, 1);
        host.dueCount(0, 6);
        for (int i = 0; i < 5; i++) {
            store(host, 2 + i, 2);
            host.dueFirstLong(50 - i, 100 + i, 100 + i);
            host.dueFirstLong(1, 0, 1);
        }
        store(host, 7, 2);
        host.dueFirstLong(1, 1, 1);
        // one that was sent away comes last, too
        store(host, 50, 500);
        host.dueFirstLong(50, 100, 500);
        host.dueFirstLong(2, 2, 2);
        for (int i = 0; i < 5; i++) {
            store(host, 20 + i, 2);
            host.dueFirstLong(50, 100, 500);
        }
        store(host, 25, 2);
        host.dueFirstLong(50, 500, 500);
    }

    private static void theSeventhSendsTheFirstAway() {
        Check.sentence("if there were 7 then, the first of them goes to the medium before");
        Host five = withCached(5);
        store(five, 1, 1);
        five.dueCount(0, 6);
        five.dueFirstLong(50, 0, 100);
        Host six = withCached(6);
        store(six, 48, 2);
        six.dueFirstLong(50, 0, 100);
        store(six, 1, 1);
        six.dueCount(0, 6);
        six.dueFirstLong(50, 100, 100);
        six.dueFirstLong(49, 0, 101);
        six.dueFirstLong(1, 0, 1);
        Check.due("stop(true)", six.drive.stop(true), 6);
        six.dueFirstLong(50, 100, 100);
        six.dueFirstLong(49, 0, 0);
    }

    private static void oneCommandSendsManyAway() {
        for (int n = 5; n <= 8; n++) {
            Host host = Host.ready();
            host.fill(FREE, 16, 1);
            // every page of the DATA is the same one: blocks of 1 .. and of 9 ..
            host.pokeAll(640, FREE, FREE, FREE);
            host.status(n + " blocks", 1, Cmd.op(17).n(n).p(FREE).q(640).x(20), 0);
            host.dueCount(0, Math.min(n, 6));
            for (int i = 0; i < n; i++) {
                long v = i % 2 == 0 ? 1 : 9;
                host.dueFirstLong(20 + i, i < n - 6 ? v : 0, v);
            }
        }
        Host host = withCached(6);
        host.status("all become 0", 1, Cmd.op(20).n(64).x(0), 0);
        host.dueCount(0, 6);
        for (int i = 0; i < 6; i++) {
            host.dueFirstLong(50 - i, 0, 0);
        }
    }

    private static void oneCommandSendsItsOwnBlocksAway() {
        Host host = Host.ready();
        host.pokeAll(640, 528, 544, 560, 576);
        for (int i = 0; i < 10; i++) {
            host.drive.poke(FREE + 8 * i, 100 + i);
        }
        host.status("10 blocks", 1, Cmd.op(17).n(10).p(FREE).q(640).x(20), 0);
        for (int i = 0; i < 10; i++) {
            host.dueFirstLong(20 + i, i < 4 ? 100 + i : 0, 100 + i);
        }
        host.status("zero 20 to 27", 1, Cmd.op(20).n(8).x(20), 0);
        // 20 and 21 push out 24 and 25; 22 and 23 push out 26 and 27; 24 and 25
        // push out 28 and 29; 26 and 27 push out 20 and 21
        host.dueCount(0, 6);
        for (int i = 0; i < 10; i++) {
            host.dueFirstLong(20 + i, i < 2 ? 0 : 100 + i, i < 8 ? 0 : 100 + i);
        }
    }

    private static void flushed() {
        Check.sentence("FLUSHED: all of the cache go to the medium, which is empty then");
        for (int cached : new int[] {0, 1, 5, 6}) {
            Host host = withCached(cached);
            host.status("flush", 1, Cmd.op(16), 0);
            host.dueCount(0, 0);
            for (int i = 0; i < cached; i++) {
                host.dueFirstLong(50 - i, 100 + i, 100 + i);
            }
            host.dueFirstLong(50 - cached, 0, 0);
            host.status("flush again", 1, Cmd.op(16), 0);
            host.dueCount(0, 0);
            // the cache has its six places again
            for (int i = 0; i < 6; i++) {
                store(host, 10 + i, 1);
            }
            host.dueCount(0, 6);
            host.dueFirstLong(10, 0, 1);
        }
        everyLongGoesToTheMedium();
    }

    private static void everyLongGoesToTheMedium() {
        Host host = Host.ready();
        host.fill(FREE, 48, 1000);
        for (int i = 0; i < 6; i++) {
            host.status("store", 1, Cmd.op(17).p(FREE + 8 * i).x(63 - i), 0);
        }
        host.status("flush", 1, Cmd.op(16), 0);
        for (int i = 0; i < 6; i++) {
            host.dueBlock(63 - i, true, 1000 + 8 * i, 1);
        }
    }

    private static void withCachingOff() {
        Check.sentence("With caching off a block that is stored goes to the medium at once, "
            + "and the cache stays empty");
        Host host = withCached(6);
        host.result("caching off", Cmd.op(5).p(0), 1);
        store(host, 50, 1);
        host.dueFirstLong(50, 1, 1);
        host.dueCount(0, 0);
        host.status("zero", 1, Cmd.op(20).x(49), 0);
        host.dueFirstLong(49, 0, 0);
        host.dueCount(0, 0);
        host.drive.poke(FREE, 102);
        host.drive.poke(FREE + 16, 7);
        host.status("op 21", 1, Cmd.op(21).p(FREE).q(FREE + 16).x(48), 0);
        host.dueFirstLong(48, 7, 7);
        host.dueCount(0, 0);
        for (int i = 0; i < 7; i++) {
            store(host, i, 200 + i);
            host.dueFirstLong(i, 200 + i, 200 + i);
            host.dueCount(0, 0);
        }
        host.result("none is cached", Cmd.op(7), 0);
        Check.due("stop(true)", host.drive.stop(true), 0);
        host.dueFirstLong(48, 7, 7);
        host.dueFirstLong(6, 206, 206);
    }
}
