/** Promise 9: interrupts, one bit of each completion queue. */
public final class P09InterruptsTest {
    public static void main(String[] args) {
        Host host = Host.begun();
        due(host, 0, 0);
        host.status("how many are cached", 0, Cmd.op(7), 0);
        due(host, 0, 1);
        due(host, 14, 1);
        due(host, 1, 1);
        due(host, 0, 0);
        eachQueue(host);
        statusDoesNotMatter(host);
        bitStaysWhenItsQueueGoes();
        Check.end();
    }

    private static void due(Host host, int mask, int want) {
        Check.due("interrupts(" + mask + ")", host.drive.interrupts(mask), want);
    }

    private static void eachQueue(Host host) {
        for (int q = 1; q <= 3; q++) {
            Cmd completion = Cmd.makeCompletion(q, Host.answers(q), 16);
            host.status("completion queue", 0, q == 2 ? completion : completion.flag(), 0);
            host.status("submission queue", 0, Cmd.makeSubmission(q, Host.base(q), 16, q), 0);
        }
        due(host, -1, 1);
        host.status("flush by 2, without interrupts", 2, Cmd.op(16), 0);
        due(host, 0, 0);
        host.status("flush by 1", 1, Cmd.op(16), 0);
        due(host, 0, 2);
        host.status("flush by 3", 3, Cmd.op(16), 0);
        due(host, 2, 10);
        due(host, 0, 8);
        due(host, Integer.MIN_VALUE, 8);
        due(host, Integer.MAX_VALUE, 8);
        due(host, 0, 0);
    }

    private static void statusDoesNotMatter(Host host) {
        host.status("no such op", 1, Cmd.op(0), 1);
        due(host, -1, 2);
        host.status("no such op", 2, Cmd.op(0), 1);
        due(host, -1, 0);
    }

    private static void bitStaysWhenItsQueueGoes() {
        Host host = Host.ready();
        host.status("flush", 1, Cmd.op(16), 0);
        host.status("submission queue 1 goes", 0, Cmd.op(4).p(1), 0);
        host.status("completion queue 1 goes", 0, Cmd.op(3).p(1), 0);
        due(host, 1, 3);
        due(host, 0, 2);
        host.status("completion queue 1 again", 0, Cmd.makeCompletion(1, 272, 4), 0);
        due(host, 0, 3);
    }
}
