/** Promises 2 and 3: longs of memory by address, 0 to 1023. */
public final class P02P03PeekPokeTest {
    private static final int[] NO_ADDRESSES = {
        -1, -2, -16, -1024, 1024, 1025, 1040, 2047, 2048, 65536,
        Integer.MAX_VALUE, Integer.MIN_VALUE, Integer.MIN_VALUE + 1023
    };

    public static void main(String[] args) {
        everyLongIsZeroAtFirst();
        everyAddressHasItsOwnLong();
        peekOfAnAddress();
        peekOfNoAddress();
        pokeOfAnAddress();
        pokeOfNoAddress();
        Check.end();
    }

    private static void everyLongIsZeroAtFirst() {
        Check.sentence("MEMORY: 1024 LONGS, 0 at first, by ADDRESS, 0 to 1023");
        for (int from = 0; from < 1024; from += 512) {
            Host host = Host.off();
            for (int address = from; address < from + 512; address++) {
                host.dueLong(address, 0);
            }
        }
    }

    private static void everyAddressHasItsOwnLong() {
        for (int from = 0; from < 1024; from += 256) {
            Host host = Host.off();
            host.fill(from, 256, 10000 + from);
            host.dueMemory(from, 256, 10000 + from);
        }
        Host host = Host.off();
        int[] edges = {0, 1, 15, 16, 511, 512, 1007, 1008, 1022, 1023};
        for (int address : edges) {
            Check.due("poke(" + address + ")", host.drive.poke(address, address + 5), 0);
        }
        for (int address : edges) {
            host.dueLong(address, address + 5);
        }
        for (int address : new int[] {2, 14, 17, 510, 513, 1006, 1009, 1021}) {
            host.dueLong(address, 0);
        }
    }

    private static void peekOfAnAddress() {
        Check.sentence("The long at an address;");
        Host host = Host.off();
        host.pokeAll(0, 11, 12);
        host.pokeAll(1022, 13, 14);
        host.dueLong(0, 11);
        host.dueLong(1, 12);
        host.dueLong(1022, 13);
        host.dueLong(1023, 14);
        host.begin();
        host.dueLong(1023, 14);
        host.drive.stop(true);
        host.dueLong(1023, 14);
    }

    private static void peekOfNoAddress() {
        Check.sentence("0 for another one.");
        Host host = Host.off();
        host.pokeAll(0, 11, 12);
        host.pokeAll(1022, 13, 14);
        for (int address : NO_ADDRESSES) {
            host.dueLong(address, 0);
        }
        host.begin();
        for (int address : NO_ADDRESSES) {
            host.dueLong(address, 0);
        }
    }

    private static void pokeOfAnAddress() {
        Check.sentence("The long at an address becomes v: 0.");
        Host host = Host.off();
        long[] values = {Long.MAX_VALUE, Long.MIN_VALUE, -1, 1L << 32, 1L << 31, 1, 0};
        for (long v : values) {
            for (int address : new int[] {0, 1, 1022, 1023}) {
                Check.due("poke(" + address + ", " + v + ")", host.drive.poke(address, v), 0);
                host.dueLong(address, v);
            }
        }
        host.begin();
        Check.due("poke(1023, 8) while it is on", host.drive.poke(1023, 8), 0);
        host.dueLong(1023, 8);
        host.dueLong(1022, 0);
    }

    private static void pokeOfNoAddress() {
        Check.sentence("REFUSED for another one.");
        Host host = Host.off();
        int[] edges = {0, 1, 15, 16, 1007, 1008, 1022, 1023};
        for (int address : edges) {
            host.drive.poke(address, address + 5);
        }
        for (int address : NO_ADDRESSES) {
            Check.due("poke(" + address + ", 7)", host.drive.poke(address, 7),
                DoorbellDrive.REFUSED);
        }
        for (int address : edges) {
            host.dueLong(address, address + 5);
        }
        host.begin();
        Check.due("poke(1024, 7)", host.drive.poke(1024, 7), DoorbellDrive.REFUSED);
        Check.due("poke(-1, 7)", host.drive.poke(-1, 7), DoorbellDrive.REFUSED);
    }
}
