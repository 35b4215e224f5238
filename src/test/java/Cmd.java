/** The four longs of a command; fields that are not told are 0, and n is 1. */
final class Cmd {
    private long op;
    private long id;
    private long flag;
    private long count;
    private long p;
    private long q;
    private long x;

    static Cmd op(int op) {
        Cmd cmd = new Cmd();
        cmd.op = op;
        return cmd;
    }

    static Cmd makeCompletion(long number, long base, long size) {
        return op(1).p(number).q(base).x(size);
    }

    static Cmd makeSubmission(long number, long base, long size, int answersTo) {
        return op(2).p(number).q(base).x(size).n(answersTo + 1);
    }

    Cmd id(int v) {
        id = v;
        return this;
    }

    Cmd flag() {
        flag = 1;
        return this;
    }

    Cmd n(int v) {
        count = v - 1;
        return this;
    }

    Cmd p(long v) {
        p = v;
        return this;
    }

    Cmd q(long v) {
        q = v;
        return this;
    }

    Cmd x(long v) {
        x = v;
        return this;
    }

    long[] longs() {
        return new long[] {op | id << 8 | flag << 24 | count << 32, p, q, x};
    }
}
