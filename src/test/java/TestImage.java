import java.util.Arrays;

/** Builds images for the tests and puts them onto the tape of a loader. */
final class TestImage {
    static final int READ = 4;
    static final int WRITE = 2;
    static final int FETCH = 1;

    private byte[] bytes;

    /** A sound header with so many heads of kind 0 behind it, and as much behind these. */
    TestImage(int sort, long entry, int heads, int size) {
        bytes = new byte[size];
        int[] magic = {127, 69, 76, 70, 1, 1, 1};
        for (int i = 0; i < magic.length; i++) {
            bytes[i] = (byte) magic[i];
        }
        half(16, sort).half(18, 243).word(20, 1).word(24, entry).word(28, 52);
        half(40, 52).half(42, 32).half(44, heads);
    }

    /** One segment at address 0 with all rights, with the last 8 bytes of the tape as its filed ones. */
    static TestImage plain(int held) {
        TestImage image = new TestImage(3, 0, 1, 92);
        image.head(0, 1, 84, 0, 8, held, 7, 1);
        return image.word(84, 0x11223344).word(88, 0x55667788);
    }

    static int place(int head) {
        return 52 + 32 * head;
    }

    TestImage word(int place, long v) {
        for (int i = 0; i < 4; i++) {
            bytes[place + i] = (byte) (v >>> (8 * i));
        }
        return this;
    }

    TestImage half(int place, int v) {
        bytes[place] = (byte) v;
        bytes[place + 1] = (byte) (v >>> 8);
        return this;
    }

    TestImage put(int place, int v) {
        bytes[place] = (byte) v;
        return this;
    }

    TestImage head(int i, long kind, long offset, long address, long filed, long held, long rights, long align) {
        int t = place(i);
        word(t, kind).word(t + 4, offset).word(t + 8, address).word(t + 12, 0xABCDEF);
        return word(t + 16, filed).word(t + 20, held).word(t + 24, rights).word(t + 28, align);
    }

    TestImage words(int place, long... values) {
        for (int i = 0; i < values.length; i++) {
            word(place + 4 * i, values[i]);
        }
        return this;
    }

    TestImage size(int size) {
        bytes = Arrays.copyOf(bytes, size);
        return this;
    }

    /** The tape is emptied first. */
    void onto(ImageLoader x) {
        x.cut(0);
        Check.same("cut(0) empties the tape", x.count(4), 0);
        for (int from = 0; from < bytes.length; from += 8) {
            int n = Math.min(8, bytes.length - from);
            long w = 0;
            for (int i = 0; i < n; i++) {
                w |= (bytes[from + i] & 255L) << (8 * i);
            }
            Check.same("add of an image's bytes", x.add(w, n), from + n);
        }
    }

    ImageLoader on(int frames) {
        ImageLoader x = new ImageLoader(frames);
        onto(x);
        return x;
    }

    /** Loads into a fresh object, where a fault must leave nothing behind. */
    void faulty(String what, int base, int fault, int place) {
        ImageLoader x = on(64);
        Check.same(what + ": load", x.load(base), -10 - fault);
        Check.same(what + ": told(0)", x.told(0), place);
        Check.same(what + ": told(1)", x.told(1), ImageLoader.NONE);
        Check.same(what + ": count(0)", x.count(0), 0);
        Check.same(what + ": count(5)", x.count(5), 0);
        Check.same(what + ": the tape stays", x.count(4), bytes.length);
    }

    void sound(String what, int base, int relocations) {
        ImageLoader x = on(64);
        Check.same(what + ": load", x.load(base), relocations);
        Check.same(what + ": told(0)", x.told(0), ImageLoader.NONE);
        Check.same(what + ": count(5)", x.count(5), 1);
        Check.same(what + ": the tape stays", x.count(4), bytes.length);
    }
}
