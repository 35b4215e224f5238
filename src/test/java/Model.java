import java.util.ArrayList;
import java.util.LinkedHashMap;
import java.util.List;
import java.util.Map;

/** The document once more, in a form of its own: long-winded, with the Java library. */
final class Model {
    static final class Queue {
        long base;
        long size;
        int head;
        int tail;
        int answersTo;
        int phase = 1;
        boolean interrupts;

        Queue(long base, long size) {
            this.base = base;
            this.size = size;
        }

        int held() {
            return Math.floorMod(tail - head, (int) size);
        }
    }

    final long[] memory = new long[1024];
    final long[][] medium = new long[64][8];
    // a key that is put again keeps its place
    final Map<Integer, long[]> cache = new LinkedHashMap<>();
    final Queue[] submissions = new Queue[4];
    final Queue[] completions = new Queue[4];
    boolean caching = true;
    boolean on;
    int bits;
    int latest = 3;
    final int[] counted = new int[6];
    long result;

    long peek(int address) {
        return address >= 0 && address <= 1023 ? memory[address] : 0;
    }

    int poke(int address, long v) {
        if (address < 0 || address > 1023) {
            return -1;
        }
        memory[address] = v;
        return 0;
    }

    static boolean queueFits(long base, long size, int entry) {
        if (base < 0 || base > 1023 || base % 4 != 0 || size < 2 || size > 16) {
            return false;
        }
        long last = base + size * entry - 1;
        return last <= 1023;
    }

    int begin(int base, int size, int answers, int answersSize) {
        if (!queueFits(base, size, 4) || !queueFits(answers, answersSize, 1)) {
            return -1;
        }
        if (on) {
            return -2;
        }
        on = true;
        bits = 0;
        latest = 3;
        submissions[0] = new Queue(base, size);
        completions[0] = new Queue(answers, answersSize);
        completions[0].interrupts = true;
        return 0;
    }

    int stop(boolean power) {
        if (!on) {
            return -3;
        }
        int there = cache.size();
        if (!power) {
            flush();
        }
        cache.clear();
        on = false;
        for (int q = 0; q < 4; q++) {
            submissions[q] = null;
            completions[q] = null;
        }
        return there;
    }

    int ring(int queue, int tail) {
        if (!on) {
            return -3;
        }
        Queue told = queue >= 0 && queue <= 3 ? submissions[queue] : null;
        if (told == null || tail < 0 || tail >= told.size) {
            return -1;
        }
        told.tail = tail;
        return told.held();
    }

    int seen(int queue, int head) {
        if (!on) {
            return -3;
        }
        Queue told = queue >= 0 && queue <= 3 ? completions[queue] : null;
        if (told == null) {
            return -1;
        }
        for (int i = 0, at = told.head; i <= told.held(); i++, at = (at + 1) % (int) told.size) {
            if (at == head) {
                told.head = head;
                return told.held();
            }
        }
        return -1;
    }

    int run(int n) {
        if (!on) {
            return -3;
        }
        if (n < 0 || n > 200) {
            return -1;
        }
        int done = 0;
        while (done < n && oneMore()) {
            done++;
        }
        return done;
    }

    private boolean oneMore() {
        for (int i = 1; i <= 4; i++) {
            int q = (latest + i) % 4;
            Queue queue = submissions[q];
            if (queue == null || queue.held() == 0) {
                continue;
            }
            Queue to = completions[queue.answersTo];
            if ((to.tail + 1) % to.size == to.head) {
                continue;
            }
            latest = q;
            carryOut(q, queue, to);
            return true;
        }
        return false;
    }

    private void carryOut(int q, Queue queue, Queue to) {
        long[] c = new long[4];
        for (int i = 0; i < 4; i++) {
            c[i] = memory[(int) queue.base + 4 * queue.head + i];
        }
        queue.head = (queue.head + 1) % (int) queue.size;
        result = 0;
        int op = (int) (c[0] & 255);
        boolean flag = (c[0] >> 24 & 1) != 0;
        int n = (int) (c[0] >> 32 & 255) + 1;
        int status = q == 0 ? admin(op, flag, n, c[1], c[2], c[3]) : other(op, flag, n, c[1], c[2], c[3]);
        counted[status == 0 ? 2 : 3]++;
        long answer = (c[0] >> 8 & 0xFFFF) + q * 0x10000L + queue.head * 0x100000L
            + status * 0x10000000L + to.phase * 0x1000000000L + result * 0x10000000000L;
        memory[(int) to.base + to.tail] = answer;
        to.tail = (to.tail + 1) % (int) to.size;
        if (to.tail == 0) {
            to.phase ^= 1;
        }
        if (to.interrupts) {
            bits |= 1 << queue.answersTo;
        }
    }

    private int admin(int op, boolean flag, int n, long p, long q, long x) {
        boolean numbered = p >= 1 && p <= 3;
        if (op == 1) {
            if (!numbered || completions[(int) p] != null || !queueFits(q, x, 1)) {
                return 2;
            }
            completions[(int) p] = new Queue(q, x);
            completions[(int) p].interrupts = flag;
        } else if (op == 2) {
            if (!numbered || submissions[(int) p] != null || !queueFits(q, x, 4)) {
                return 2;
            }
            if (n < 2 || n > 4 || completions[n - 1] == null) {
                return 2;
            }
            submissions[(int) p] = new Queue(q, x);
            submissions[(int) p].answersTo = n - 1;
        } else if (op == 3) {
            if (!numbered || completions[(int) p] == null) {
                return 2;
            }
            for (Queue queue : submissions) {
                if (queue != null && queue.answersTo == p) {
                    return 2;
                }
            }
            completions[(int) p] = null;
        } else if (op == 4) {
            if (!numbered || submissions[(int) p] == null) {
                return 2;
            }
            submissions[(int) p] = null;
        } else if (op == 5) {
            if (p < 0 || p > 1) {
                return 2;
            }
            result = caching ? 1 : 0;
            caching = p == 1;
            if (!caching) {
                flush();
            }
        } else if (op == 6) {
            if (n != 1) {
                return 2;
            }
            List<Integer> to = data(1, p, q);
            if (to == null) {
                return 4;
            }
            long[] told = {64, counted[2], counted[3], counted[4], counted[5], 0, 0, 0};
            for (int i = 0; i < 8; i++) {
                memory[to.get(i)] = told[i];
            }
        } else if (op == 7) {
            result = cache.size();
        } else {
            return 1;
        }
        return 0;
    }

    private int other(int op, boolean flag, int n, long p, long q, long x) {
        if (op < 16 || op > 21) {
            return 1;
        }
        if (op == 16) {
            flush();
            return 0;
        }
        if (x < 0 || x > 63 || x + n - 1 > 63) {
            return 3;
        }
        int first = (int) x;
        List<Integer> from = null;
        if (op == 21) {
            from = straight(n, p);
            if (from == null || straight(n, q) == null) {
                return 4;
            }
        } else if (op != 20) {
            from = data(n, p, q);
            if (from == null) {
                return 4;
            }
        }
        if (op == 19 || op == 21) {
            for (int i = 0; i < 8 * n; i++) {
                if (block(first + i / 8, i % 8, false) != memory[from.get(i)]) {
                    return 5;
                }
            }
        }
        if (op == 18) {
            for (int i = 0; i < 8 * n; i++) {
                memory[from.get(i)] = block(first + i / 8, i % 8, false);
            }
            counted[4] += n;
        }
        if (op == 17 || op == 20 || op == 21) {
            store(first, n, op == 21 ? straight(n, q) : from);
            if (flag) {
                flush();
            }
        }
        return 0;
    }

    private void store(int first, int n, List<Integer> from) {
        for (int i = 0; i < n; i++) {
            long[] stored = new long[8];
            for (int k = 0; k < 8; k++) {
                stored[k] = from == null ? 0 : memory[from.get(8 * i + k)];
            }
            if (!caching) {
                medium[first + i] = stored;
                continue;
            }
            cache.put(first + i, stored);
            if (cache.size() == 7) {
                int oldest = cache.keySet().iterator().next();
                medium[oldest] = cache.remove(oldest);
            }
        }
        counted[5] += n;
    }

    private void flush() {
        cache.forEach((number, longs) -> medium[number] = longs);
        cache.clear();
    }

    private static boolean isPage(long address) {
        return address >= 0 && address <= 1008 && address % 16 == 0;
    }

    private static List<Integer> straight(int n, long from) {
        if (!isPage(from) || from + 8 * n > 1024) {
            return null;
        }
        List<Integer> all = new ArrayList<>();
        for (int i = 0; i < 8 * n; i++) {
            all.add((int) from + i);
        }
        return all;
    }

    private List<Integer> data(int n, long p, long q) {
        if (p < 0 || p > 1023) {
            return null;
        }
        List<Integer> all = new ArrayList<>();
        int at = (int) p;
        do {
            all.add(at);
            at++;
        } while (at % 16 != 0 && all.size() < 8 * n);
        int rest = 8 * n - all.size();
        if (rest == 0) {
            return all;
        }
        List<Long> pages = new ArrayList<>();
        if (rest <= 16) {
            pages.add(q);
        } else {
            int needed = rest % 16 == 0 ? rest / 16 : rest / 16 + 1;
            if (q < 0 || q > 1023 || q / 16 != (q + needed - 1) / 16) {
                return null;
            }
            for (int i = 0; i < needed; i++) {
                pages.add(memory[(int) q + i]);
            }
        }
        for (long page : pages) {
            if (!isPage(page)) {
                return null;
            }
            for (int i = 0; i < 16 && all.size() < 8 * n; i++) {
                all.add((int) page + i);
            }
        }
        return all;
    }

    int interrupts(int mask) {
        int told = bits;
        bits &= ~mask;
        return told;
    }

    long block(int block, int k, boolean fromMedium) {
        if (block < 0 || block > 63 || k < 0 || k > 7) {
            return 0;
        }
        return !fromMedium && cache.containsKey(block) ? cache.get(block)[k] : medium[block][k];
    }

    int queue(int q, int what) {
        if (what < 0 || what > 8) {
            return -1;
        }
        Queue told = q < 0 || q > 3 ? null : what <= 4 ? submissions[q] : completions[q];
        if (told == null) {
            return -2;
        }
        int[] all = {told.head, told.tail, told.held(), (int) told.size, told.answersTo,
            told.head, told.tail, told.phase, (int) told.size};
        return all[what];
    }

    int count(int what) {
        counted[0] = cache.size();
        counted[1] = caching ? 1 : 0;
        return what < 0 || what > 5 ? -1 : counted[what];
    }
}
