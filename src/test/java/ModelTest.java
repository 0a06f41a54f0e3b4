import java.util.Random;

/** Runs of at most 512 calls, each answer against that of the model; the seeds are fixed. */
public final class ModelTest {
    private static final int RUNS = 6000;
    private static final int[] ODD = {Integer.MIN_VALUE, Integer.MIN_VALUE + 1, -65536, -257, -256, -5, -4, -3, -2, -1,
        0, 1, 2, 3, 4, 5, 7, 8, 9, 16, 17, 62, 63, 64, 65, 255, 256, 899, 900, 901, 16383, 16384, 16385,
        Integer.MAX_VALUE - 3, Integer.MAX_VALUE - 1, Integer.MAX_VALUE};
    private static final long[] WORDS = {0, 1, 2, 3, 4, 6, 7, 8, 9, 11, 12, 16, 52, 255, 256, 257, 512, 1024, 4096, 8192,
        16383, 16384, 0x7FFFFFFFL, 0x80000000L, 0xFFFFFF00L, 0xFFFFFFF4L, 0xFFFFFFFFL};

    private static final int[] answersOfLoad = new int[64];

    private final Random random;
    private final ImageLoader x;
    private final Model model;
    private final int run;
    private int calls = 0;

    private ModelTest(int run) {
        this.run = run;
        random = new Random(run);
        int frames = random.nextInt(8) == 0 ? odd() : 1 + random.nextInt(70);
        x = new ImageLoader(frames);
        model = new Model(frames);
    }

    public static void main(String[] args) {
        for (int run = 0; run < RUNS && !Check.anyFailed(); run++) {
            new ModelTest(run).play();
        }
        // The runs are worth something only if they come to every fault, and to loads without one.
        for (int fault = 1; fault <= 23; fault++) {
            Check.holds("fault " + fault + " was met", answersOfLoad[fault] > 0);
        }
        Check.holds("many were sound", answersOfLoad[0] > RUNS / 4);
        Check.end();
    }

    private int odd() {
        return ODD[random.nextInt(ODD.length)];
    }

    private int any(int bound) {
        return random.nextInt(12) == 0 ? odd() : random.nextInt(bound);
    }

    private void same(String call, long got, long due) {
        calls++;
        Check.same("run " + run + ", call " + calls + ", " + call, got, due);
    }

    private void play() {
        for (int step = 0; step < 40 && calls < 500 && !Check.anyFailed(); step++) {
            int kind = random.nextInt(10);
            if (kind < 4 && calls < 200) {
                image();
            } else if (kind < 5 && calls < 460) {
                arguments();
            } else {
                for (int i = 0; i < 8 && calls < 500; i++) {
                    call();
                }
            }
        }
        same("sum of all", x.sum(0, 64), model.sum(0, 64));
        for (int what = 0; what <= 6 && calls < 512; what++) {
            same("count " + what, x.count(what), model.count(what));
        }
    }

    private void load(int base) {
        int answer = x.load(base);
        same("load(" + base + ")", answer, model.load(base));
        if (answer >= 0) {
            answersOfLoad[0]++;
        } else if (answer <= -11 && answer >= -33) {
            answersOfLoad[-10 - answer]++;
        }
        same("told(0)", x.told(0), model.told(0));
        same("sum", x.sum(0, 64), model.sum(0, 64));
    }

    private void image() {
        byte[] bytes = sound();
        same("cut", x.cut(0), model.cut(0));
        for (int from = 0; from < bytes.length; from += 8) {
            long w = 0;
            int n = Math.min(8, bytes.length - from);
            for (int i = 0; i < n; i++) {
                w |= (bytes[from + i] & 255L) << (8 * i);
            }
            same("add", x.add(w, n), model.add(w, n));
        }
        load(256 * random.nextInt(24));
        for (int i = 0; i < 3 && calls < 480; i++) {
            spoil(bytes.length);
            load(random.nextInt(9) == 0 ? any(17000) : 256 * random.nextInt(64));
        }
    }

    private void spoil(int size) {
        int place = 4 * random.nextInt(size / 4);
        if (random.nextInt(3) > 0) {
            int[] header = {0, 4, 16, 18, 20, 24, 28, 40, 42, 44};
            place = random.nextInt(3) == 0 ? header[random.nextInt(10)] : 52 + 4 * random.nextInt(Math.min(24, (size - 52) / 4));
        }
        int n = place < 52 && place != 24 && place != 28 && place != 20 ? 1 + random.nextInt(2) : 4;
        int v = random.nextInt(4) == 0 ? random.nextInt() : (int) WORDS[random.nextInt(WORDS.length)];
        same("poke", x.poke(place, n, v), model.poke(place, n, v));
    }

    /** Segments one behind the other, the first with relocations and symbols among its filed bytes. */
    private byte[] sound() {
        int segments = 1 + random.nextInt(3);
        int dynamics = random.nextInt(5) == 0 ? 0 : random.nextInt(6) == 0 ? 2 : 1;
        int relocations = random.nextInt(9);
        int symbols = 1 + random.nextInt(3);
        int filed = 12 * relocations + 16 * symbols + 4 * random.nextInt(5);
        int filedAt = 52 + 32 * (segments + dynamics);
        int pairsAt = filedAt + filed;
        byte[] bytes = new byte[pairsAt + 48];
        int[] header = {0x464C457F, 0x00010101, 0, 0, 243 << 16 | (2 + random.nextInt(2)), 1, 0, 52, 0, 0, 32 << 16 | 52, segments + dynamics, 0};
        for (int i = 0; i < header.length; i++) {
            word(bytes, 4 * i, header[i]);
        }
        int address = random.nextInt(3) == 0 ? 4 * random.nextInt(100) : 0;
        int first = address;
        int firstHeld = filed + random.nextInt(3) * 64;
        word(bytes, 24, address + random.nextInt(Math.max(1, firstHeld)));
        int[] order = new int[segments + dynamics];
        for (int i = 0; i < dynamics; i++) {
            order[random.nextInt(order.length)] = 1;
        }
        boolean isFirst = true;
        for (int i = 0; i < order.length; i++) {
            if (order[i] == 1) {
                head(bytes, i, 2, pairsAt, 0, 48, 0, 0, 0);
            } else if (isFirst) {
                head(bytes, i, 1, filedAt, address, filed, firstHeld, 1 + 2 * random.nextInt(4), random.nextInt(2));
                address = (address + firstHeld + 255) / 256 * 256;
                isFirst = false;
            } else {
                int held = random.nextInt(600);
                head(bytes, i, 1, 0, address, Math.min(held, random.nextInt(52)), held, random.nextInt(8), 1 << random.nextInt(4));
                address = (address + held + 255) / 256 * 256 + (random.nextInt(3) == 0 ? 256 : 0);
            }
        }
        content(bytes, filedAt, first, relocations, symbols, firstHeld);
        int[] pairs = {7, first, 8, 12 * relocations, 9, 12, 6, first + 12 * relocations, 11, 16, 0, 0};
        for (int i = 0; i < pairs.length; i++) {
            word(bytes, pairsAt + 4 * i, pairs[i]);
        }
        return bytes;
    }

    private void content(byte[] bytes, int filedAt, int first, int relocations, int symbols, int held) {
        int[] sorts = {0, 1, 1, 1, 3, 3};
        for (int i = 0; i < relocations; i++) {
            int where = first + random.nextInt(held - 3);
            if (random.nextInt(3) > 0) {
                where = first + 12 * relocations + 4 * random.nextInt((held - 12 * relocations) / 4);
            }
            int sort = random.nextInt(40) == 0 ? random.nextInt(256) : sorts[random.nextInt(6)];
            int number = random.nextInt(30) == 0 ? random.nextInt() : random.nextInt(symbols);
            word(bytes, filedAt + 12 * i, random.nextInt(40) == 0 ? odd() : where);
            word(bytes, filedAt + 12 * i + 4, number << 8 | sort);
            word(bytes, filedAt + 12 * i + 8, random.nextInt());
        }
        for (int i = 0; i < symbols; i++) {
            int at = filedAt + 12 * relocations + 16 * i;
            word(bytes, at + 4, random.nextInt());
            word(bytes, at + 12, random.nextInt(12) == 0 ? 0xFFFF : random.nextInt());
        }
    }

    private static void head(byte[] bytes, int i, int... parts) {
        int t = 52 + 32 * i;
        int[] places = {0, 4, 8, 16, 20, 24, 28};
        for (int k = 0; k < places.length; k++) {
            word(bytes, t + places[k], parts[k]);
        }
    }

    private static void word(byte[] bytes, int place, int v) {
        for (int i = 0; i < 4; i++) {
            bytes[place + i] = (byte) (v >> (8 * i));
        }
    }

    private void arguments() {
        same("cut", x.cut(0), model.cut(0));
        int parts = random.nextInt(12);
        for (int i = 0; i < parts; i++) {
            long w = random.nextLong() & (random.nextInt(2) == 0 ? 0xFFFF00FF00FFFFFFL : -1L);
            int n = 1 + random.nextInt(8);
            same("add", x.add(w, n), model.add(w, n));
            if (random.nextInt(6) == 0) {
                int zeros = 1 + random.nextInt(300);
                same("zeros", x.zeros(zeros), model.zeros(zeros));
            }
        }
        int pages = random.nextInt(9) == 0 ? any(20) : 1 + random.nextInt(16);
        same("stack(" + pages + ")", x.stack(pages), model.stack(pages));
        same("sum", x.sum(48, 16), model.sum(48, 16));
    }

    private void call() {
        int a = any(16384);
        int page = any(64);
        int v = random.nextInt();
        int n = random.nextInt(8) == 0 ? odd() : 1 << random.nextInt(3);
        int aligned = n > 0 && random.nextInt(4) > 0 ? a / n * n : a;
        int what = any(8);
        switch (random.nextInt(15)) {
            case 0 -> same("add(" + v + ", " + what + ")", x.add(v, what), model.add(v, what));
            case 1 -> same("zeros(" + a % 1000 + ")", x.zeros(a % 1000), model.zeros(a % 1000));
            case 2 -> same("poke(" + a % 950 + ", " + n + ")", x.poke(a % 950, n, v), model.poke(a % 950, n, v));
            case 3 -> same("peek(" + a % 950 + ")", x.peek(a % 950), model.peek(a % 950));
            case 4 -> same("cut(" + a % 950 + ")", x.cut(a % 950), model.cut(a % 950));
            case 5 -> same("told(" + what + ")", x.told(what), model.told(what));
            case 6 -> same("read(" + aligned + ", " + n + ")", x.read(aligned, n), model.read(aligned, n));
            case 7 -> same("write(" + aligned + ", " + n + ")", x.write(aligned, n, v), model.write(aligned, n, v));
            case 8 -> same("fetch(" + aligned + ")", x.fetch(aligned), model.fetch(aligned));
            case 9 -> same("protect(" + page + ", " + what + ")", x.protect(page, what), model.protect(page, what));
            case 10 -> same("unmap(" + page + ", " + n + ")", x.unmap(page, n), model.unmap(page, n));
            case 11 -> same("rights(" + page + ")", x.rights(page), model.rights(page));
            case 12 -> same("count(" + what + ")", x.count(what), model.count(what));
            case 13 -> same("sum(" + page + ", " + n + ")", x.sum(page, n), model.sum(page, n));
            default -> load(256 * (a / 256));
        }
    }
}
