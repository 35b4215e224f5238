/** Promises 2 and 3: longs of memory by address, 0 to 1023. */
public final class P02P03PeekPokeTest {
    private static final int[] WRONG = {
        -1, -16, 1024, 1025, 2048, 65536, Integer.MAX_VALUE, Integer.MIN_VALUE
    };

    public static void main(String[] args) {
        everyAddressHasItsOwnLong(0);
        everyAddressHasItsOwnLong(5);
        longsAreWhole();
        wrongAddresses();
        memoryStaysThroughBeginAndStop();
        Check.end();
    }

    private static void everyAddressHasItsOwnLong(int from) {
        DoorbellDrive drive = new DoorbellDrive();
        for (int address = from; address < 1024; address += 9) {
            Check.due("poke(" + address + ")", drive.poke(address, address + 1), 0);
        }
        for (int address = from; address < 1024; address += 9) {
            Check.due("peek(" + address + ")", drive.peek(address), address + 1);
            Check.due("peek(" + (address + 1) + ")", drive.peek(address + 1), 0);
        }
    }

    private static void longsAreWhole() {
        DoorbellDrive drive = new DoorbellDrive();
        long[] values = {Long.MAX_VALUE, Long.MIN_VALUE, -1, 1L << 40, 0};
        for (long v : values) {
            for (int address : new int[] {0, 1023}) {
                Check.due("poke(" + address + ", " + v + ")", drive.poke(address, v), 0);
                Check.due("peek(" + address + ")", drive.peek(address), v);
            }
        }
    }

    private static void wrongAddresses() {
        DoorbellDrive drive = new DoorbellDrive();
        drive.poke(0, 11);
        drive.poke(1023, 12);
        for (int address : WRONG) {
            Check.due("poke(" + address + ", 5)", drive.poke(address, 5), DoorbellDrive.REFUSED);
            Check.due("peek(" + address + ")", drive.peek(address), 0);
        }
        Check.due("peek(0)", drive.peek(0), 11);
        Check.due("peek(1023)", drive.peek(1023), 12);
    }

    private static void memoryStaysThroughBeginAndStop() {
        Host host = Host.off();
        for (int address = 0; address < 280; address += 4) {
            host.drive.poke(address, address + 100);
        }
        host.begin();
        host.drive.stop(true);
        host.begin();
        host.drive.stop(false);
        for (int address = 0; address < 280; address += 4) {
            Check.due("peek(" + address + ")", host.drive.peek(address), address + 100);
        }
    }
}
