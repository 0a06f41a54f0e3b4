/** The edges of promises 1 to 6 and of the tape, a sentence of the document each. */
public final class TapeEdgesTest {
    private static final int BAD = ImageLoader.BAD;
    private static final int NONE = ImageLoader.NONE;
    private static final int REFUSED = ImageLoader.REFUSED;
    private static final int LEAST = Integer.MIN_VALUE;
    private static final int GREATEST = Integer.MAX_VALUE;

    public static void main(String[] args) {
        lastCall();
        numbers();
        tapeLimit();
        frames();
        emptyTape();
        addSizes();
        addOrder();
        addRefused();
        zerosSizes();
        zerosRefused();
        pokeSizes();
        pokePlaces();
        peekPlaces();
        cutSizes();
        cutBad();
        Check.end();
    }

    /** A tape with the bytes 1, 2, .. on an object that has pages, too. */
    private static Twin.State tapeOf(int size) {
        return () -> {
            ImageLoader x = TestImage.plain(300).on(9);
            Check.same("an image", x.load(2048), 0);
            x.cut(0);
            for (int i = 0; i + 8 <= size; i += 8) {
                long w = 0;
                for (int k = 0; k < 8; k++) {
                    w |= (long) (i + k + 1 & 255) << (8 * k);
                }
                x.add(w, 8);
            }
            for (int i = size / 8 * 8; i < size; i++) {
                x.add(i + 1, 1);
            }
            Check.same("the tape", x.count(4), size);
            return x;
        };
    }

    private static ImageLoader after511() {
        ImageLoader x = TestImage.plain(300).on(9);
        int calls = 2 + 12;
        x.load(2048);
        calls++;
        for (; calls < 511; calls++) {
            x.write(2048 + calls % 256, 1, calls);
        }
        return x;
    }

    private static void lastCall() {
        Check.sentence("An object is used for at most 512 calls after it has been made");
        Check.same("add", after511().add(1, 8), 100);
        Check.same("zeros", after511().zeros(808), 900);
        Check.same("poke", after511().poke(88, 4, 1), 0);
        Check.same("peek", after511().peek(0), 127);
        Check.same("cut", after511().cut(0), 92);
        Check.same("load", after511().load(0), 0);
        Check.same("told", after511().told(1), 2048);
        // The image's 93 bytes are 61 arguments: 64 words below them.
        Check.same("stack", after511().stack(2), 16032);
        Check.same("read", after511().read(2048 + 510 % 256, 1), 510 & 255);
        Check.same("write", after511().write(2048, 4, 5), 0);
        Check.same("fetch", after511().fetch(2304), 0);
        Check.same("protect", after511().protect(8, 5), 7);
        Check.same("unmap", after511().unmap(0, 64), 2);
        Check.same("rights", after511().rights(9), 7);
        Check.same("count", after511().count(0), 2);
        Check.same("sum", after511().sum(0, 0), 7);
    }

    private static void numbers() {
        Check.sentence("NUMBERS of 2 and 4 bytes have the lowest byte first, and no sign.");
        TestImage image = TestImage.plain(1000).put(24, 1).put(25, 2).put(26, 0).put(27, 0);
        ImageLoader x = image.on(4);
        Check.same("the entry's lowest byte is first", x.load(0), 0);
        Check.same("the entry", x.told(1), 0x201);
        TestImage.plain(8).put(16, 3).put(17, 0).sound("the sort's lowest byte is first", 0, 0);
        TestImage.plain(8).put(16, 0).put(17, 3).faulty("the sort's highest byte is last", 0, 3, 16);
        TestImage.plain(8).half(44, 0x8001).faulty("a number of 2 bytes has no sign", 0, 7, 44);
        TestImage.plain(0x80000008).faulty("a number of 4 bytes has no sign", 0, 13, 60);
        x.write(256, 4, 0xFFFEFDFC);
        Check.same("of 1 byte", x.read(259, 1), 0xFF);
        Check.same("of 2 bytes", x.read(258, 2), 0xFFFE);
        Check.same("of 4 bytes", x.read(256, 4), 0xFFFEFDFCL);
    }

    private static void tapeLimit() {
        Check.sentence("THE TAPE has up to 900 bytes, places from 0 on");
        ImageLoader x = tapeOf(900).made();
        Check.same("900 bytes", x.count(4), 900);
        Check.same("place -1", x.peek(-1), NONE);
        Check.same("place 0", x.peek(0), 1);
        Check.same("place 899", x.peek(899), 900 & 255);
        Check.same("place 900", x.peek(900), NONE);
        Check.same("place 899 is changed", x.poke(899, 1, 77), 0);
        Check.same("it", x.peek(899), 77);
        Twin.same("place 900 is not", tapeOf(900), y -> y.poke(900, 1, 77), BAD);
        TestImage.plain(8).size(900).words(892, 0x01020304, 0x05060708).word(56, 892)
            .sound("an image with its last bytes", 0, 0);
    }

    private static void frames() {
        Check.sentence("So many frames (below 1 counts as 1, above 64 as 64)");
        int[][] framesAndDue = {{LEAST, 1}, {-1, 1}, {0, 1}, {1, 1}, {2, 2}, {63, 63}, {64, 64}, {65, 64}, {GREATEST, 64}};
        for (int[] row : framesAndDue) {
            int due = row[1];
            Check.same("count(6) of " + row[0], new ImageLoader(row[0]).count(6), due);
            TestImage fits = TestImage.plain(256 * due);
            ImageLoader x = fits.on(row[0]);
            Check.same("as many pages as " + row[0] + " frames", x.load(0), 0);
            Check.same("pages", x.count(0), due);
            if (due < 64) {
                Twin.faulty("one page more", Twin.fresh(row[0], TestImage.plain(256 * due + 1)), 0, 15, 72);
            }
        }
        Check.same("one frame for a stack", new ImageLoader(0).stack(1), 16368);
        Twin.same("two pages of a stack", Twin.fresh(0), x -> x.stack(2), REFUSED);
    }

    private static void emptyTape() {
        Check.sentence("an empty tape");
        ImageLoader x = new ImageLoader(5);
        Check.same("bytes", x.count(4), 0);
        Check.same("the first place", x.peek(0), NONE);
        Check.same("nothing goes", x.cut(0), 0);
        Check.same("no image", x.load(0), -11);
        Check.same("its bytes", x.told(0), 0);
        Check.same("no arguments", x.stack(1), 16368);
        Check.same("the first byte", x.add(9, 1), 1);
        Twin.same("nothing to cut", Twin.fresh(5), y -> y.cut(1), BAD);
        Twin.same("nothing to change", Twin.fresh(5), y -> y.poke(0, 1, 1), BAD);
    }

    private static void addSizes() {
        Check.sentence("add: The n (1 .. 8) lowest bytes of w");
        for (int n = 1; n <= 8; n++) {
            ImageLoader x = new ImageLoader(5);
            Check.same("add of " + n, x.add(0xF8F7F6F5F4F3F2F1L, n), n);
            for (int i = 0; i < n; i++) {
                Check.same("byte " + i, x.peek(i), 0xF1 + i);
            }
            Check.same("no more", x.peek(n), NONE);
        }
        int[] bad = {LEAST, LEAST + 1, -8, -1, 0, 9, 10, 16, 900, GREATEST};
        for (int n : bad) {
            Twin.same("add of " + n, tapeOf(5), x -> x.add(0x0102030405060708L, n), BAD);
        }
    }

    private static void addOrder() {
        Check.sentence("add: the lowest first, come behind the tape: how many it has");
        ImageLoader x = tapeOf(3).made();
        Check.same("two more", x.add(Long.MIN_VALUE + 0x0201, 2), 5);
        Check.same("eight more", x.add(Long.MIN_VALUE, 8), 13);
        int[] due = {1, 2, 3, 1, 2, 0, 0, 0, 0, 0, 0, 0, 128, NONE};
        for (int i = 0; i < due.length; i++) {
            Check.same("byte " + i, x.peek(i), due[i]);
        }
    }

    private static void addRefused() {
        Check.sentence("add: REFUSED: it would have more than 900");
        for (int n = 1; n <= 8; n++) {
            int size = n;
            Check.same("up to 899", tapeOf(899 - n).made().add(-1, n), 899);
            Check.same("up to 900", tapeOf(900 - n).made().add(-1, n), 900);
            Twin.same("up to 901", tapeOf(901 - n), x -> x.add(-1, size), REFUSED);
            Twin.same("behind 900", tapeOf(900), x -> x.add(-1, size), REFUSED);
        }
        Twin.same("BAD is asked first", tapeOf(900), x -> x.add(-1, 9), BAD);
        Twin.same("BAD is asked first", tapeOf(900), x -> x.add(-1, 0), BAD);
    }

    private static void zerosSizes() {
        Check.sentence("zeros: n zeros (1 .. 900) come behind the tape: how many bytes it has");
        int[] sound = {1, 2, 899, 900};
        for (int n : sound) {
            ImageLoader x = new ImageLoader(5);
            Check.same("zeros(" + n + ")", x.zeros(n), n);
            Check.same("the first", x.peek(0), 0);
            Check.same("the last", x.peek(n - 1), 0);
            Check.same("no more", x.peek(n), NONE);
        }
        int[] bad = {LEAST, -900, -1, 0, 901, 902, GREATEST};
        for (int n : bad) {
            Twin.same("zeros(" + n + ")", tapeOf(5), x -> x.zeros(n), BAD);
        }
        ImageLoader x = tapeOf(16).made();
        x.cut(2);
        Check.same("where others were", x.zeros(3), 5);
        int[] due = {1, 2, 0, 0, 0, NONE};
        for (int i = 0; i < due.length; i++) {
            Check.same("byte " + i, x.peek(i), due[i]);
        }
    }

    private static void zerosRefused() {
        Check.sentence("zeros: REFUSED likewise");
        int[] sizes = {1, 2, 8, 450, 899};
        for (int n : sizes) {
            Check.same("up to 899", tapeOf(899 - n).made().zeros(n), 899);
            Check.same("up to 900", tapeOf(900 - n).made().zeros(n), 900);
            Twin.same("up to 901", tapeOf(901 - n), x -> x.zeros(n), REFUSED);
            Twin.same("behind 900", tapeOf(900), x -> x.zeros(n), REFUSED);
        }
        Check.same("900 on an empty tape", tapeOf(0).made().zeros(900), 900);
        Twin.same("900 behind one", tapeOf(1), x -> x.zeros(900), REFUSED);
        Twin.same("BAD is asked first", tapeOf(900), x -> x.zeros(901), BAD);
        Twin.same("BAD is asked first", tapeOf(900), x -> x.zeros(0), BAD);
    }

    private static void pokeSizes() {
        Check.sentence("poke: The n (1, 2, 4) lowest bytes of v come to a place of the tape and those behind it: 0");
        int[] sound = {1, 2, 4};
        for (int n : sound) {
            ImageLoader x = tapeOf(10).made();
            Check.same("poke of " + n, x.poke(3, n, 0xF4F3F2F1), 0);
            for (int i = 0; i < 10; i++) {
                Check.same("byte " + i, x.peek(i), i >= 3 && i < 3 + n ? 0xF1 + i - 3 : i + 1);
            }
            Check.same("bytes", x.count(4), 10);
        }
        int[] bad = {LEAST, -4, -2, -1, 0, 3, 5, 6, 8, GREATEST};
        for (int n : bad) {
            Twin.same("poke of " + n, tapeOf(10), x -> x.poke(3, n, -1), BAD);
        }
    }

    private static void pokePlaces() {
        Check.sentence("poke: BAD: also if it has not all of these");
        int[] sizes = {4, 5, 900};
        int[] widths = {1, 2, 4};
        for (int size : sizes) {
            for (int n : widths) {
                Check.same("the first place", tapeOf(size).made().poke(0, n, -1), 0);
                Twin.same("one before", tapeOf(size), x -> x.poke(-1, n, -1), BAD);
                Twin.same("all before", tapeOf(size), x -> x.poke(-n, n, -1), BAD);
                ImageLoader last = tapeOf(size).made();
                Check.same("the last place", last.poke(size - n, n, -1), 0);
                Check.same("the last byte", last.peek(size - 1), 255);
                Check.same("no more", last.count(4), size);
                Twin.same("one behind", tapeOf(size), x -> x.poke(size - n + 1, n, -1), BAD);
                Twin.same("all behind", tapeOf(size), x -> x.poke(size, n, -1), BAD);
                Twin.same("far behind", tapeOf(size), x -> x.poke(GREATEST, n, -1), BAD);
                Twin.same("nearly as far", tapeOf(size), x -> x.poke(GREATEST - n + 1, n, -1), BAD);
                Twin.same("far before", tapeOf(size), x -> x.poke(LEAST, n, -1), BAD);
            }
        }
        Twin.same("two bytes have no place for four", tapeOf(2), x -> x.poke(0, 4, -1), BAD);
        Twin.State cut = () -> {
            ImageLoader x = tapeOf(16).made();
            x.cut(6);
            return x;
        };
        Check.same("up to where it was cut", cut.made().poke(4, 2, -1), 0);
        Twin.same("over where it was cut", cut, x -> x.poke(5, 2, -1), BAD);
    }

    private static void peekPlaces() {
        Check.sentence("peek: Byte i of the tape; NONE");
        int[] sizes = {0, 1, 5, 899, 900};
        int[] outside = {LEAST, -2, -1, 900, 901, GREATEST};
        for (int size : sizes) {
            ImageLoader x = tapeOf(size).made();
            if (size > 0) {
                Check.same("the first", x.peek(0), 1);
                Check.same("the last", x.peek(size - 1), size & 255);
            }
            for (int i : outside) {
                Check.same("peek(" + i + ")", x.peek(i), NONE);
            }
            Twin.same("behind the last", tapeOf(size), y -> y.peek(size), NONE);
        }
        Twin.same("it changes nothing", tapeOf(9), x -> x.peek(8), 9);
        ImageLoader high = new ImageLoader(1);
        high.add(0xFF80, 2);
        Check.same("a byte has no sign", high.peek(0), 128);
        Check.same("nor has 255, which is not NONE", high.peek(1), 255);
    }

    private static void cutSizes() {
        Check.sentence("cut: The tape has its first n bytes alone: how many went");
        int[][] sizeAndN = {{0, 0}, {1, 0}, {1, 1}, {9, 0}, {9, 1}, {9, 8}, {9, 9}, {900, 0}, {900, 899}, {900, 900}};
        for (int[] row : sizeAndN) {
            ImageLoader x = tapeOf(row[0]).made();
            Check.same("cut(" + row[1] + ") of " + row[0], x.cut(row[1]), row[0] - row[1]);
            Check.same("how many are left", x.count(4), row[1]);
            Check.same("behind them", x.peek(row[1]), NONE);
            Check.same("the last of them", x.peek(row[1] - 1), row[1] == 0 ? NONE : row[1] & 255);
            Check.same("again", x.cut(row[1]), 0);
        }
    }

    private static void cutBad() {
        Check.sentence("cut: BAD: it has not so many, or n is below 0");
        int[] sizes = {0, 1, 9, 900};
        int[] below = {LEAST, -900, -2, -1};
        for (int size : sizes) {
            for (int n : below) {
                Twin.same("cut(" + n + ")", tapeOf(size), x -> x.cut(n), BAD);
            }
            Twin.same("one more than it has", tapeOf(size), x -> x.cut(size + 1), BAD);
            Twin.same("far more", tapeOf(size), x -> x.cut(GREATEST), BAD);
            Twin.same("as many as it has", tapeOf(size), x -> x.cut(size), 0);
        }
        Twin.State shorter = () -> {
            ImageLoader x = tapeOf(9).made();
            x.cut(4);
            return x;
        };
        Twin.same("as many as it had", shorter, x -> x.cut(9), BAD);
        Twin.same("one more than it has now", shorter, x -> x.cut(5), BAD);
    }
}
