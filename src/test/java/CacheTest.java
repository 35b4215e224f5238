/** Terms: the cache, by the order in which its blocks came. */
public final class CacheTest {
    public static void main(String[] args) {
        theSeventhPushesOutTheFirst();
        aBlockStaysInItsPlace();
        readsDoNotChangeTheOrder();
        oneCommandOfManyBlocks();
        pushedOutBlockComesAgain();
        withCachingOff();
        lossOfPower();
        Check.end();
    }

    private static void store(Host host, int block, long v) {
        host.drive.poke(512, v);
        host.status("store block " + block, 1, Cmd.op(17).p(512).x(block), 0);
    }

    private static void due(Host host, int block, long medium, long found) {
        Check.due("block(" + block + ", 0, true)", host.drive.block(block, 0, true), medium);
        Check.due("block(" + block + ", 0, false)", host.drive.block(block, 0, false), found);
    }

    private static Host withSix() {
        Host host = Host.ready();
        for (int i = 0; i < 6; i++) {
            store(host, 50 - i, 100 + i);
        }
        host.dueCount(0, 6);
        for (int i = 0; i < 6; i++) {
            due(host, 50 - i, 0, 100 + i);
        }
        return host;
    }

    private static void theSeventhPushesOutTheFirst() {
        Host host = withSix();
        for (int i = 0; i < 6; i++) {
            store(host, i, 200 + i);
            host.dueCount(0, 6);
            for (int k = 0; k < 6; k++) {
                due(host, 50 - k, k <= i ? 100 + k : 0, 100 + k);
            }
        }
        store(host, 7, 300);
        due(host, 0, 200, 200);
        due(host, 1, 0, 201);
    }

    private static void aBlockStaysInItsPlace() {
        Host host = withSix();
        store(host, 50, 900);
        host.dueCount(0, 6);
        due(host, 50, 0, 900);
        store(host, 1, 1);
        due(host, 50, 900, 900);
        due(host, 49, 0, 101);
        store(host, 47, 903);
        store(host, 2, 2);
        due(host, 49, 101, 101);
        due(host, 48, 0, 102);
        store(host, 3, 3);
        due(host, 48, 102, 102);
        due(host, 47, 0, 903);
        store(host, 4, 4);
        due(host, 47, 903, 903);
    }

    private static void readsDoNotChangeTheOrder() {
        Host host = withSix();
        host.status("read the first", 1, Cmd.op(18).p(640).x(50), 0);
        host.status("read what is not cached", 1, Cmd.op(18).p(656).x(1), 0);
        host.dueCount(0, 6);
        Check.due("peek(640)", host.drive.peek(640), 100);
        store(host, 1, 1);
        due(host, 50, 100, 100);
        due(host, 49, 0, 101);
    }

    private static void oneCommandOfManyBlocks() {
        Host host = Host.ready();
        for (int i = 0; i < 4; i++) {
            host.drive.poke(640 + i, 528 + 16 * i);
        }
        for (int i = 0; i < 10; i++) {
            host.drive.poke(512 + 8 * i, 100 + i);
        }
        host.status("10 blocks", 1, Cmd.op(17).n(10).p(512).q(640).x(20), 0);
        host.dueCount(0, 6);
        for (int i = 0; i < 10; i++) {
            due(host, 20 + i, i < 4 ? 100 + i : 0, 100 + i);
        }
        host.status("zero 20 to 27", 1, Cmd.op(20).n(8).x(20), 0);
        // 20 and 21 push out 24 and 25; 22 and 23 push out 26 and 27; 24 and 25
        // push out 28 and 29; 26 and 27 push out 20 and 21
        host.dueCount(0, 6);
        for (int i = 0; i < 10; i++) {
            due(host, 20 + i, i < 2 ? 0 : 100 + i, i < 8 ? 0 : 100 + i);
        }
    }

    private static void pushedOutBlockComesAgain() {
        Host host = withSix();
        store(host, 1, 1);
        store(host, 50, 500);
        due(host, 50, 100, 500);
        due(host, 49, 101, 101);
        host.dueCount(0, 6);
    }

    private static void withCachingOff() {
        Host host = withSix();
        host.result("caching off", Cmd.op(5).p(0), 1);
        for (int i = 0; i < 6; i++) {
            due(host, 50 - i, 100 + i, 100 + i);
        }
        store(host, 50, 1);
        due(host, 50, 1, 1);
        host.status("zero", 1, Cmd.op(20).x(49), 0);
        due(host, 49, 0, 0);
        host.drive.poke(512, 102);
        host.drive.poke(528, 7);
        host.status("compare and write", 1, Cmd.op(21).p(512).q(528).x(48), 0);
        due(host, 48, 7, 7);
        host.dueCount(0, 0);
        Check.due("stop(true)", host.drive.stop(true), 0);
        due(host, 48, 7, 7);
    }

    private static void lossOfPower() {
        Host host = withSix();
        store(host, 1, 1);
        Check.due("stop(true)", host.drive.stop(true), 6);
        due(host, 50, 100, 100);
        due(host, 49, 0, 0);
        due(host, 1, 0, 0);
        host.begin();
        host.addQueue(1);
        store(host, 49, 5);
        host.dueCount(0, 1);
        due(host, 49, 0, 5);
    }
}
