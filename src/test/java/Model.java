import java.util.ArrayList;
import java.util.List;
import java.util.Map;
import java.util.TreeMap;

/**
 * A second reading of the document, as plain as can be: pages are rows in a map, a load works on a
 * copy of the map that takes its place only if there was no fault.
 */
final class Model {
    private static final long WORD = 1L << 32;

    private final int frames;
    private List<Integer> tape = new ArrayList<>();
    private Map<Integer, int[]> pages = new TreeMap<>();
    private Map<Integer, Integer> rights = new TreeMap<>();
    private int images = 0;
    private final int[] told = {-1, -1, -1, -1};

    // Of the load that is going on: held addresses, and the fault that ended it.
    private List<long[]> heldRanges;
    private int place;

    Model(int frames) {
        this.frames = frames < 1 ? 1 : frames > 64 ? 64 : frames;
    }

    int add(long w, int n) {
        if (n < 1 || n > 8) {
            return -2;
        }
        if (tape.size() + n > 900) {
            return -3;
        }
        for (int i = 0; i < n; i++) {
            tape.add((int) (w >> (8 * i) & 255));
        }
        return tape.size();
    }

    int zeros(int n) {
        if (n < 1 || n > 900) {
            return -2;
        }
        if (tape.size() + n > 900) {
            return -3;
        }
        for (int i = 0; i < n; i++) {
            tape.add(0);
        }
        return tape.size();
    }

    int poke(int place, int n, int v) {
        if (n != 1 && n != 2 && n != 4 || place < 0 || (long) place + n > tape.size()) {
            return -2;
        }
        for (int i = 0; i < n; i++) {
            tape.set(place + i, v >> (8 * i) & 255);
        }
        return 0;
    }

    int peek(int i) {
        return i < 0 || i >= tape.size() ? -1 : tape.get(i);
    }

    int cut(int n) {
        if (n < 0 || n > tape.size()) {
            return -2;
        }
        int went = tape.size() - n;
        tape = new ArrayList<>(tape.subList(0, n));
        return went;
    }

    private long number(long p, int n) {
        long v = 0;
        for (int i = n - 1; i >= 0; i--) {
            v = v * 256 + tape.get((int) p + i);
        }
        return v;
    }

    private int fault(int number, long where) {
        place = (int) where;
        return -10 - number;
    }

    int load(int base) {
        if (base % 256 != 0 || base < 0 || base > 16128) {
            return -2;
        }
        Map<Integer, int[]> pagesBefore = pages;
        Map<Integer, Integer> rightsBefore = rights;
        pages = new TreeMap<>();
        for (Map.Entry<Integer, int[]> page : pagesBefore.entrySet()) {
            pages.put(page.getKey(), page.getValue().clone());
        }
        rights = new TreeMap<>(rightsBefore);
        place = -1;
        int answer = loadOnto(base);
        told[0] = place;
        if (answer < 0) {
            pages = pagesBefore;
            rights = rightsBefore;
            return answer;
        }
        images++;
        told[3] = number(16, 2) == 2 ? 0 : base;
        told[1] = (int) number(24, 4) + told[3];
        told[2] = pages.size() - pagesBefore.size();
        return answer;
    }

    private int loadOnto(int wanted) {
        if (tape.size() < 52) {
            return fault(1, tape.size());
        }
        int[] first = {0x7F, 'E', 'L', 'F', 1, 1, 1};
        for (int i = 0; i < 7; i++) {
            if (tape.get(i) != first[i]) {
                return fault(2, i);
            }
        }
        if (number(16, 2) != 2 && number(16, 2) != 3) {
            return fault(3, 16);
        }
        long base = number(16, 2) == 2 ? 0 : wanted;
        if (number(18, 2) != 243) {
            return fault(4, 18);
        }
        if (number(20, 4) != 1) {
            return fault(5, 20);
        }
        if (number(40, 2) != 52) {
            return fault(6, 40);
        }
        if (number(42, 2) != 32) {
            return fault(6, 42);
        }
        long heads = number(44, 2);
        if (heads == 0 || heads > 8) {
            return fault(7, 44);
        }
        long table = number(28, 4);
        if (table + 32 * heads > tape.size()) {
            return fault(8, 28);
        }
        heldRanges = new ArrayList<>();
        long dynamic = -1;
        boolean entered = false;
        // The pages are mapped head by head: the map is a copy, and a fault throws it away.
        for (long t = table; t < table + 32 * heads; t += 32) {
            long kind = number(t, 4);
            long offset = number(t + 4, 4);
            long address = number(t + 8, 4);
            long filed = number(t + 16, 4);
            long held = number(t + 20, 4);
            int right = (int) (number(t + 24, 4) % 8);
            long align = number(t + 28, 4);
            if (kind == 1 && held < filed) {
                return fault(9, t + 20);
            }
            if ((kind == 1 || kind == 2) && offset + filed > tape.size()) {
                return fault(10, t + 4);
            }
            if (kind == 2) {
                if (filed % 8 != 0) {
                    return fault(16, t + 16);
                }
                dynamic = t;
            }
            if (kind != 1) {
                continue;
            }
            if (align > 1) {
                long power = 2;
                while (power < align && power < 4096) {
                    power *= 2;
                }
                if (power != align) {
                    return fault(11, t + 28);
                }
                if (address % align != offset % align) {
                    return fault(12, t + 8);
                }
            }
            if (held == 0) {
                continue;
            }
            if (address + base + held > 16384) {
                return fault(13, t + 8);
            }
            int lowest = (int) (address + base) / 256;
            int highest = (int) (address + base + held - 1) / 256;
            for (int page = lowest; page <= highest; page++) {
                if (pages.containsKey(page)) {
                    return fault(14, t + 8);
                }
            }
            for (int page = lowest; page <= highest; page++) {
                pages.put(page, new int[256]);
                rights.put(page, right);
            }
            if (pages.size() > frames) {
                return fault(15, t + 20);
            }
            for (long i = 0; i < filed; i++) {
                set(address + base + i, tape.get((int) (offset + i)));
            }
            heldRanges.add(new long[] {address + base, address + base + held});
            long entry = number(24, 4) + base;
            if (right % 2 == 1 && entry >= address + base && entry < address + base + held) {
                entered = true;
            }
        }
        if (heldRanges.isEmpty()) {
            return fault(17, 44);
        }
        if (!entered) {
            return fault(18, 24);
        }
        return dynamic < 0 ? 0 : dynamic(dynamic, base);
    }

    private int dynamic(long t, long base) {
        Map<Long, Long> pairs = new TreeMap<>();
        long offset = number(t + 4, 4);
        for (long p = offset; p < offset + number(t + 16, 4) && number(p, 4) != 0; p += 8) {
            pairs.put(number(p, 4), number(p + 4, 4));
        }
        long bytes = pairs.getOrDefault(8L, 0L);
        if (bytes % 12 != 0 || bytes > 0 && pairs.getOrDefault(9L, 0L) != 12 || bytes > 720) {
            return fault(19, t);
        }
        for (int i = 0; i < bytes / 12; i++) {
            long at = (pairs.getOrDefault(7L, 0L) + base + 12L * i) % WORD;
            if (!held(at, 12)) {
                return fault(20, i);
            }
            long where = (word(at) + base) % WORD;
            long what = word(at + 4);
            long more = word(at + 8);
            if (!held(where, 4)) {
                return fault(20, i);
            }
            long value = base;
            if (what % 256 == 1) {
                long symbol = what / 256;
                long from = (pairs.getOrDefault(6L, 0L) + base + 16 * symbol) % WORD;
                if (!held(from, 16) || pairs.getOrDefault(11L, 0L) != 16) {
                    return fault(22, i);
                }
                if (symbol != 0 && word(from + 12) / 65536 == 0) {
                    return fault(23, i);
                }
                value = symbol == 0 ? 0 : word(from + 4) + base;
            } else if (what % 256 == 0) {
                continue;
            } else if (what % 256 != 3) {
                return fault(21, i);
            }
            for (int k = 0; k < 4; k++) {
                set(where + k, (int) ((value + more) >> (8 * k) & 255));
            }
        }
        return (int) (bytes / 12);
    }

    private boolean held(long address, int n) {
        for (long a = address; a < address + n; a++) {
            boolean found = false;
            for (long[] range : heldRanges) {
                found |= a >= range[0] && a < range[1];
            }
            if (!found) {
                return false;
            }
        }
        return true;
    }

    private void set(long address, int v) {
        pages.get((int) (address / 256))[(int) (address % 256)] = v;
    }

    private long get(long address) {
        return pages.get((int) (address / 256))[(int) (address % 256)];
    }

    private long word(long address) {
        return get(address) + 256 * get(address + 1) + 65536 * get(address + 2) + 16777216 * get(address + 3);
    }

    int told(int what) {
        return what < 0 || what > 3 ? -2 : told[what];
    }

    int stack(int n) {
        if (n < 1 || n > 16) {
            return -2;
        }
        for (int page = 64 - n; page < 64; page++) {
            if (pages.containsKey(page)) {
                return -3;
            }
        }
        if (pages.size() + n > frames) {
            return -3;
        }
        List<List<Integer>> arguments = new ArrayList<>();
        List<Integer> argument = new ArrayList<>();
        for (int b : tape) {
            argument.add(b);
            if (b == 0) {
                arguments.add(argument);
                argument = new ArrayList<>();
            }
        }
        if (!argument.isEmpty()) {
            argument.add(0);
            arguments.add(argument);
        }
        int texts = 16384;
        for (List<Integer> one : arguments) {
            texts -= one.size();
        }
        int pointer = 16384;
        while (pointer % 16 != 0 || pointer + 4 * arguments.size() + 12 > texts) {
            pointer--;
        }
        if (pointer < 16384 - 256 * n) {
            return -3;
        }
        for (int page = 64 - n; page < 64; page++) {
            pages.put(page, new int[256]);
            rights.put(page, 6);
        }
        setWord(pointer, arguments.size());
        int at = texts;
        for (int i = 0; i < arguments.size(); i++) {
            setWord(pointer + 4 + 4 * i, at);
            for (int b : arguments.get(i)) {
                set(at, b);
                at++;
            }
        }
        tape = new ArrayList<>();
        return pointer;
    }

    private void setWord(int address, int v) {
        for (int k = 0; k < 4; k++) {
            set(address + k, v >> (8 * k) & 255);
        }
    }

    private long refusal(int address, int n, int right) {
        if (n != 1 && n != 2 && n != 4) {
            return -4;
        }
        if (address % n != 0) {
            return -3;
        }
        for (long a = address; a < (long) address + n; a++) {
            if (a < 0 || a > 16383 || !pages.containsKey((int) a / 256)) {
                return -1;
            }
        }
        return (rights.get(address / 256) & right) == 0 ? -2 : 0;
    }

    private long readWith(int address, int n, int right) {
        long refusal = refusal(address, n, right);
        if (refusal < 0) {
            return refusal;
        }
        long v = 0;
        for (int i = n - 1; i >= 0; i--) {
            v = v * 256 + get(address + i);
        }
        return v;
    }

    long read(int address, int n) {
        return readWith(address, n, 4);
    }

    long fetch(int address) {
        return readWith(address, 4, 1);
    }

    int write(int address, int n, int v) {
        long refusal = refusal(address, n, 2);
        for (int i = 0; refusal == 0 && i < n; i++) {
            set(address + i, v >> (8 * i) & 255);
        }
        return (int) refusal;
    }

    int protect(int page, int to) {
        if (page < 0 || page > 63 || to < 0 || to > 7) {
            return -2;
        }
        if (!pages.containsKey(page)) {
            return -3;
        }
        return rights.put(page, to);
    }

    int unmap(int page, int n) {
        if (n < 1 || page < 0 || (long) page + n > 64) {
            return -2;
        }
        int before = pages.size();
        for (int p = page; p < page + n; p++) {
            pages.remove(p);
            rights.remove(p);
        }
        return before - pages.size();
    }

    int rights(int page) {
        return page < 0 || page > 63 ? -2 : rights.getOrDefault(page, -1);
    }

    int count(int what) {
        if (what == 0) {
            return pages.size();
        }
        if (what >= 1 && what <= 3) {
            int n = 0;
            for (int right : rights.values()) {
                n += right >> (what - 1) & 1;
            }
            return n;
        }
        return what == 4 ? tape.size() : what == 5 ? images : what == 6 ? frames : -2;
    }

    int sum(int page, int n) {
        if (n < 0) {
            return 0;
        }
        int s = 7;
        for (long p = page; p < (long) page + n; p++) {
            if (p < 0 || p > 63) {
                return 0;
            }
            int[] row = pages.get((int) p);
            for (int i = 0; i < 256; i++) {
                s = 31 * s + (row == null ? 1000 : row[i]);
            }
        }
        return s;
    }
}
