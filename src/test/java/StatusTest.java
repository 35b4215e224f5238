/** Terms: STATUS, which of them is the first, and that only status 0 does anything. */
public final class StatusTest {
    private static final int FREE = 512;
    private static final long LOW = Long.MIN_VALUE;
    private static final long HIGH = Long.MAX_VALUE;

    public static void main(String[] args) {
        theFirstThatIsSo();
        opsThatThereAreNot();
        fieldsThatAreNotAsTheyMustBe();
        fieldsWithoutMeaning();
        fieldsAreLongs();
        blocksThatThereAreNot();
        addressesAndWhatIsNotTheSame();
        allIsDone();
        anotherStatusDoesNothing();
        Check.end();
    }

    private static void theFirstThatIsSo() {
        Check.sentence("STATUS, the first that is so: of any:");
        Host host = Host.ready();
        host.status("1 before 2", 0, Cmd.op(8).n(2).p(-1).q(-1).x(-1), 1);
        host.status("1 before 3 and 4", 1, Cmd.op(22).n(256).p(-1).q(-1).x(-1), 1);
        host.status("1 before 2: op 5 in queue 1", 1, Cmd.op(5).p(7), 1);
        host.status("1 before 3: op 17 in queue 0", 0, Cmd.op(17).p(-1).x(64), 1);
        host.status("2 before 4: P", 0, Cmd.op(6).n(2).p(-1), 2);
        host.status("2 before 4: Q", 0, Cmd.op(6).n(3).p(FREE + 1).q(7), 2);
        host.status("4 then", 0, Cmd.op(6).n(1).p(-1), 4);
        for (int op : new int[] {17, 18, 19, 21}) {
            host.status("3 before 4, op " + op, 1, Cmd.op(op).p(-1).q(-1).x(64), 3);
            host.status("3 before 4, op " + op, 1, Cmd.op(op).n(2).p(3).q(3).x(63), 3);
            host.status("4 then, op " + op, 1, Cmd.op(op).p(-1).q(-1).x(63), 4);
        }
        host.drive.poke(FREE, 1);
        host.status("3 before 5, op 19", 1, Cmd.op(19).p(FREE).x(64), 3);
        host.status("3 before 5, op 21", 1, Cmd.op(21).p(FREE).q(FREE).x(64), 3);
        host.status("4 before 5, op 19", 1, Cmd.op(19).n(2).p(FREE + 1).q(1).x(0), 4);
        host.status("4 before 5, P of op 21", 1, Cmd.op(21).p(FREE + 1).q(FREE).x(0), 4);
        host.status("4 before 5, Q of op 21", 1, Cmd.op(21).p(FREE).q(FREE + 1).x(0), 4);
        host.status("5 then, op 19", 1, Cmd.op(19).p(FREE).x(0), 5);
        host.status("5 then, op 21", 1, Cmd.op(21).p(FREE).q(FREE).x(0), 5);
    }

    private static void opsThatThereAreNot() {
        Check.sentence("1 an OP that there is not in this queue");
        for (int from = 0; from < 256; from += 32) {
            Host host = Host.withAllQueues();
            for (int op = from; op < from + 32; op++) {
                // X is no block, P no address: an op that there is says 0, 2, 3 or 4
                int admin = Host.statusOf(host.send(0, Cmd.op(op).n(200).p(-1).x(64)));
                Check.due("op " + op + " in queue 0 is none", admin == 1 ? 1 : 0,
                    op >= 1 && op <= 7 ? 0 : 1);
            }
            int queue = 1 + from / 32 % 3;
            Host other = Host.withAllQueues();
            for (int op = from; op < from + 32; op++) {
                int status = Host.statusOf(other.send(queue, Cmd.op(op).p(-1).x(64)));
                int due = op == 16 ? 0 : op >= 17 && op <= 21 ? 3 : 1;
                Check.due("op " + op + " in queue " + queue, status, due);
            }
        }
        Host host = Host.withAllQueues();
        for (int queue = 0; queue <= 3; queue++) {
            for (int op : new int[] {0, 7, 8, 15, 16, 21, 22}) {
                boolean there = queue == 0 ? op == 7 : op == 16 || op == 21;
                host.status("op " + op + " in queue " + queue, queue,
                    Cmd.op(op).p(FREE).q(FREE), there ? 0 : 1);
            }
        }
    }

    private static void fieldsThatAreNotAsTheyMustBe() {
        Check.sentence("2 a field that is not as it must be");
        Host host = Host.ready();
        Cmd[] wrong = {
            Cmd.makeCompletion(0, 288, 4), Cmd.makeCompletion(4, 288, 4),
            Cmd.makeCompletion(1, 288, 4), Cmd.makeCompletion(2, 289, 4),
            Cmd.makeCompletion(2, 288, 17), Cmd.makeSubmission(0, 64, 4, 1),
            Cmd.makeSubmission(4, 64, 4, 1), Cmd.makeSubmission(1, 64, 4, 1),
            Cmd.makeSubmission(2, 66, 4, 1), Cmd.makeSubmission(2, 64, 1, 1),
            Cmd.makeSubmission(2, 64, 4, 0), Cmd.makeSubmission(2, 64, 4, 2),
            Cmd.op(3).p(0), Cmd.op(3).p(1), Cmd.op(3).p(2), Cmd.op(4).p(0), Cmd.op(4).p(2),
            Cmd.op(5).p(-1), Cmd.op(5).p(2), Cmd.op(6).n(2).p(FREE)
        };
        for (int i = 0; i < wrong.length; i++) {
            host.status("wrong command " + i, 0, wrong[i], 2);
        }
        host.dueCount(3, wrong.length);
    }

    private static void fieldsWithoutMeaning() {
        Check.sentence("(one that the op does not name has no meaning");
        for (long odd : new long[] {-1, 1, 64, 1024, HIGH, LOW}) {
            Host host = Host.begun();
            host.status("op 7", 0, Cmd.op(7).flag().n(256).p(odd).q(odd).x(odd), 0);
            host.status("op 1", 0, Cmd.makeCompletion(1, 272, 16).n(256), 0);
            host.status("op 2", 0, Cmd.makeSubmission(1, 64, 16, 1).flag(), 0);
            host.status("op 2", 0, Cmd.makeSubmission(2, 128, 16, 1).flag(), 0);
            host.status("op 4", 0, Cmd.op(4).flag().n(256).p(2).q(odd).x(odd), 0);
            host.status("op 1", 0, Cmd.makeCompletion(2, 288, 16).n(77), 0);
            host.status("op 3", 0, Cmd.op(3).flag().n(256).p(2).q(odd).x(odd), 0);
            host.status("op 5", 0, Cmd.op(5).flag().n(256).p(0).q(odd).x(odd), 0);
            host.status("op 5", 0, Cmd.op(5).flag().n(256).p(1).q(odd).x(odd), 0);
            host.status("op 6", 0, Cmd.op(6).flag().p(FREE).q(odd).x(odd), 0);
            Host blocks = Host.ready();
            blocks.status("op 16", 1, Cmd.op(16).flag().n(256).p(odd).q(odd).x(odd), 0);
            blocks.status("op 20", 1, Cmd.op(20).p(odd).q(odd).x(3), 0);
            blocks.status("op 18", 1, Cmd.op(18).flag().p(FREE).q(odd).x(3), 0);
            blocks.status("op 19", 1, Cmd.op(19).flag().p(FREE).q(odd).x(3), 0);
            // FLAG does not flush in these two
            blocks.dueCount(0, 1);
        }
    }

    private static void fieldsAreLongs() {
        Check.sentence("P, Q, X are longs)");
        for (long far : new long[] {1L << 32, 1L << 48, LOW, -1L << 32}) {
            Host host = Host.begun();
            host.status("op 1, P", 0, Cmd.makeCompletion(far | 1, 272, 16), 2);
            host.status("op 1, Q", 0, Cmd.makeCompletion(1, far | 272, 16), 2);
            host.status("op 1, X", 0, Cmd.makeCompletion(1, 272, far | 16), 2);
            host.addCompletion(1, 272, 16, true);
            host.status("op 3, P", 0, Cmd.op(3).p(far | 1), 2);
            host.status("op 2, P", 0, Cmd.makeSubmission(far | 1, 64, 16, 1), 2);
            host.status("op 2, Q", 0, Cmd.makeSubmission(1, far | 64, 16, 1), 2);
            host.status("op 2, X", 0, Cmd.makeSubmission(1, 64, far | 16, 1), 2);
            host.addSubmission(1, 64, 16, 1);
            host.status("op 4, P", 0, Cmd.op(4).p(far | 1), 2);
            host.status("op 5, P", 0, Cmd.op(5).p(far), 2);
            host.status("op 5, P", 0, Cmd.op(5).p(far | 1), 2);
            host.status("op 6, P", 0, Cmd.op(6).p(far | FREE), 4);
            host.status("op 6, Q", 0, Cmd.op(6).p(FREE + 9).q(far | FREE), 4);
            for (int op = 17; op <= 21; op++) {
                host.status("op " + op + ", X", 1, Cmd.op(op).p(FREE).q(FREE).x(far | 3), 3);
            }
            for (int op = 17; op <= 19; op++) {
                host.status("op " + op + ", P", 1, Cmd.op(op).p(far | FREE), 4);
                host.status("op " + op + ", Q", 1, Cmd.op(op).p(FREE + 9).q(far | FREE), 4);
            }
            host.status("op 21, P", 1, Cmd.op(21).p(far | FREE).q(FREE), 4);
            host.status("op 21, Q", 1, Cmd.op(21).p(FREE).q(far | FREE), 4);
        }
    }

    private static void blocksThatThereAreNot() {
        Check.sentence("3 X, or X + n - 1, is no block (of ops with blocks)");
        long[] no = {-1, -2, 64, 65, 128, HIGH, HIGH - 1, LOW, LOW + 1, LOW + 63};
        for (int op = 17; op <= 21; op++) {
            Host host = Host.ready();
            for (long x : no) {
                host.status("op " + op + " of " + x, 1, Cmd.op(op).p(FREE).q(FREE).x(x), 3);
                host.status("op " + op + " of 2 from " + x, 1,
                    Cmd.op(op).n(2).p(FREE).q(FREE).x(x), 3);
            }
            Host other = Host.ready();
            for (int n : new int[] {1, 2}) {
                for (int x : new int[] {0, 1, 62, 63}) {
                    other.status("op " + op + " of " + n + " from " + x, 1,
                        Cmd.op(op).n(n).p(FREE).q(FREE).x(x), x + n <= 64 ? 0 : 3);
                }
            }
            lastOfMany(other, op);
        }
        Host host = Host.ready();
        host.status("op 16 has no blocks", 1, Cmd.op(16).n(256).x(64), 0);
    }

    private static void lastOfMany(Host host, int op) {
        // as many pages as a list can name
        for (int i = 0; i < 16; i++) {
            host.drive.poke(640 + i, FREE);
        }
        Cmd[] in = {Cmd.op(op).n(34).x(30), Cmd.op(op).n(34).x(0), Cmd.op(op).n(10).x(54)};
        Cmd[] out = {Cmd.op(op).n(34).x(31), Cmd.op(op).n(65).x(0), Cmd.op(op).n(256).x(0),
            Cmd.op(op).n(256).x(1), Cmd.op(op).n(65).x(-1), Cmd.op(op).n(10).x(55)};
        long q = op == 21 ? FREE : 640;
        for (Cmd cmd : in) {
            int status = Host.statusOf(host.send(1, cmd.p(FREE).q(q)));
            Check.so("op " + op + ": blocks that there are", status == 0 || status == 5);
        }
        for (Cmd cmd : out) {
            host.status("op " + op + ": blocks that there are not", 1, cmd.p(FREE).q(q), 3);
        }
    }

    private static void addressesAndWhatIsNotTheSame() {
        Check.sentence("4 as said; 5 not the same.");
        Host host = Host.ready();
        host.fill(FREE, 8, 7);
        host.status("write", 1, Cmd.op(17).p(FREE).x(5), 0);
        for (int op : new int[] {17, 18, 19, 21}) {
            host.status("op " + op + ", P 1024", 1, Cmd.op(op).p(1024).q(FREE).x(5), 4);
        }
        host.status("op 6, P 1024", 0, Cmd.op(6).p(1024), 4);
        host.status("op 6, P -1", 0, Cmd.op(6).p(-1), 4);
        for (int i = 0; i < 8; i++) {
            host.status("the same", 1, Cmd.op(19).p(FREE).x(5), 0);
            host.drive.poke(FREE + i, i % 2 == 0 ? 6 + i : 7 + i + (1L << 32));
            host.status("long " + i, 1, Cmd.op(19).p(FREE).x(5), 5);
            host.status("long " + i, 1, Cmd.op(21).p(FREE).q(FREE).x(5), 5);
            host.drive.poke(FREE + i, 7 + i);
        }
        host.status("the same", 1, Cmd.op(21).p(FREE).q(FREE).x(5), 0);
    }

    private static void allIsDone() {
        Check.sentence("0 if all is done.");
        Host host = Host.begun();
        Cmd[] admin = {
            Cmd.op(7), Cmd.makeCompletion(3, 304, 4), Cmd.makeSubmission(3, 192, 4, 3),
            Cmd.op(5).p(0), Cmd.op(5).p(1), Cmd.op(6).p(FREE), Cmd.op(4).p(3), Cmd.op(3).p(3)
        };
        for (int i = 0; i < admin.length; i++) {
            host.status("admin command " + i, 0, admin[i], 0);
            host.dueCount(2, i + 1);
        }
        Host other = Host.ready();
        for (int op = 16; op <= 21; op++) {
            other.status("op " + op, 1, Cmd.op(op).p(FREE).q(FREE).x(9), 0);
            other.dueCount(2, op - 13);
        }
        other.dueCount(3, 0);
    }

    /** Queue 1, completion queue 2 without one that answers to it, two blocks in the cache. */
    private static Host prepared() {
        Host host = Host.ready();
        host.addCompletion(2, 288, 8, false);
        for (int i = 0; i < 4; i++) {
            host.fill(FREE + 16 * i, 4, 900 + 10 * i);
        }
        host.pokeAll(640, FREE + 16, FREE + 32);
        host.pokeAll(656, FREE + 16, FREE + 33);
        host.status("to the medium", 1, Cmd.op(17).flag().n(2).p(FREE).x(20), 0);
        host.status("to the cache", 1, Cmd.op(17).n(2).p(FREE + 16).x(21), 0);
        return host;
    }

    private static Cmd[] wrongAdminCommands() {
        return new Cmd[] {
            Cmd.op(16), Cmd.op(17).p(FREE).x(20), Cmd.op(20).n(64), Cmd.op(255),
            Cmd.makeCompletion(0, 304, 4), Cmd.makeCompletion(4, 304, 4),
            Cmd.makeCompletion(1, 304, 4), Cmd.makeCompletion(2, 304, 4),
            Cmd.makeCompletion(3, 305, 4), Cmd.makeCompletion(3, 304, 1),
            Cmd.makeSubmission(0, 192, 4, 1), Cmd.makeSubmission(1, 192, 4, 2),
            Cmd.makeSubmission(3, 193, 4, 2), Cmd.makeSubmission(3, 192, 17, 2),
            Cmd.makeSubmission(3, 192, 4, 0), Cmd.makeSubmission(3, 192, 4, 3),
            Cmd.op(3).p(0), Cmd.op(3).p(1), Cmd.op(3).p(3), Cmd.op(4).p(0), Cmd.op(4).p(2),
            Cmd.op(5).p(2), Cmd.op(5).p(-1), Cmd.op(6).n(2).p(FREE), Cmd.op(6).p(-1),
            Cmd.op(6).p(FREE + 9).q(3), Cmd.op(6).p(FREE + 15).q(1024)
        };
    }

    private static Cmd[] wrongBlockCommands() {
        return new Cmd[] {
            Cmd.op(5).p(0), Cmd.op(1).p(3).q(304).x(4), Cmd.op(4).p(1), Cmd.op(22),
            Cmd.op(17).flag().p(FREE).x(64), Cmd.op(17).n(2).p(FREE).x(63),
            Cmd.op(17).flag().p(-1).x(20), Cmd.op(17).n(3).p(FREE + 8).q(7).x(20),
            Cmd.op(17).n(6).p(FREE).q(656).x(20), Cmd.op(17).n(6).p(FREE).q(655).x(20),
            Cmd.op(18).n(2).p(FREE).x(63), Cmd.op(18).n(6).p(FREE).q(656).x(20),
            Cmd.op(18).n(2).p(FREE + 1).q(FREE + 20).x(20), Cmd.op(18).p(FREE).x(-1),
            Cmd.op(19).n(2).p(FREE).x(21), Cmd.op(19).flag().p(FREE).x(63),
            Cmd.op(20).flag().n(2).x(63), Cmd.op(20).flag().x(64), Cmd.op(20).n(65),
            Cmd.op(21).flag().n(2).p(FREE).q(FREE + 32).x(20),
            Cmd.op(21).n(2).p(FREE + 16).q(FREE + 33).x(21),
            Cmd.op(21).n(2).p(FREE + 17).q(FREE + 32).x(21),
            Cmd.op(21).n(2).p(FREE + 16).q(FREE + 32).x(63)
        };
    }

    private static void anotherStatusDoesNothing() {
        Check.sentence("A command with another status does nothing.");
        for (Cmd cmd : wrongAdminCommands()) {
            dueNothing(0, cmd);
        }
        for (Cmd cmd : wrongBlockCommands()) {
            dueNothing(1, cmd);
        }
    }

    /** All that can be seen is as if the command had been one without an op. */
    private static void dueNothing(int queue, Cmd cmd) {
        for (int part = 0; part < 6; part++) {
            Host one = prepared();
            Host twin = prepared();
            Check.so("its status is another", Host.statusOf(one.send(queue, cmd)) != 0);
            twin.send(queue, Cmd.op(0));
            if (part < 4) {
                dueSameMemory(one, twin, part * 256, queue);
            } else if (part == 4) {
                dueSameBlocks(one, twin);
            } else {
                dueSameRest(one, twin);
            }
        }
    }

    private static void dueSameMemory(Host one, Host twin, int from, int queue) {
        int command = Host.base(queue) + 4 * (queue == 0 ? 3 : 2);
        int answer = Host.answers(queue) + (queue == 0 ? 3 : 2);
        for (int address = from; address < from + 256; address++) {
            boolean itsOwn = address >= command && address < command + 4 || address == answer;
            if (!itsOwn) {
                one.dueLong(address, twin.drive.peek(address));
            }
        }
    }

    private static void dueSameBlocks(Host one, Host twin) {
        for (int block = 0; block < 64; block++) {
            for (int k : new int[] {0, 3}) {
                for (boolean medium : new boolean[] {false, true}) {
                    Check.due("block(" + block + ", " + k + ", " + medium + ")",
                        one.drive.block(block, k, medium), twin.drive.block(block, k, medium));
                }
            }
        }
    }

    private static void dueSameRest(Host one, Host twin) {
        for (int what = 0; what <= 8; what++) {
            for (int q = 0; q <= 3; q++) {
                one.dueQueue(q, what, twin.drive.queue(q, what));
            }
        }
        for (int what = 0; what <= 5; what++) {
            one.dueCount(what, twin.drive.count(what));
        }
        one.dueInterrupts(-1, twin.drive.interrupts(-1));
        one.dueRun(9, 0);
    }
}
