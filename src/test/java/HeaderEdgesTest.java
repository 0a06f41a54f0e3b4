/** The edges of promise 7 up to fault 8, and of promise 8, a sentence of the document each. */
public final class HeaderEdgesTest {
    private static final int BAD = ImageLoader.BAD;
    private static final int NONE = ImageLoader.NONE;

    public static void main(String[] args) {
        base();
        baseOfSortTwo();
        tapeStays();
        answers();
        tooShort();
        firstBytes();
        sort();
        machine();
        version();
        sizes();
        heads();
        table();
        firstFault();
        toldPlace();
        toldNumbers();
        toldOfSound();
        toldBad();
        Check.end();
    }

    private static TestImage plain() {
        return TestImage.plain(8);
    }

    /** In an object that was used, and in a fresh one, all is as it was. */
    private static void faulty(String what, TestImage image, int fault, int place) {
        Twin.faulty(what, Twin.used(64, image), 512, fault, place);
        Twin.faulty(what, Twin.fresh(64, image), 512, fault, place);
    }

    private static void base() {
        Check.sentence("load: with a BASE (a multiple of 256, 0 .. 16128");
        int[] sound = {0, 256, 512, 8192, 15872, 16128};
        for (int base : sound) {
            ImageLoader x = plain().on(1);
            Check.same("load(" + base + ")", x.load(base), 0);
            Check.same("the page", x.rights(base / 256), 7);
            Check.same("the base", x.told(3), base);
        }
        int[] bad = {Integer.MIN_VALUE, -16128, -256, -255, -1, 1, 2, 128, 255, 257, 511, 16127, 16129, 16383, 16384,
            16640, 65536, 0x7FFFFF00, Integer.MAX_VALUE};
        for (int base : bad) {
            Twin.same("load(" + base + ")", Twin.used(64, plain()), x -> x.load(base), BAD);
            Twin.same("load(" + base + ") of sort 2", Twin.used(64, plain().half(16, 2)), x -> x.load(base), BAD);
            Twin.same("load(" + base + ") of a faulty one", Twin.used(64, plain().put(0, 0)), x -> x.load(base), BAD);
            Twin.same("load(" + base + ") of no bytes", Twin.fresh(64), x -> x.load(base), BAD);
        }
    }

    private static void baseOfSortTwo() {
        Check.sentence("load: for the sort 2 it counts as 0");
        for (int base = 0; base <= 16128; base += 16128) {
            ImageLoader x = TestImage.plain(16384).half(16, 2).on(64);
            Check.same("sort 2 fits with the base " + base, x.load(base), 0);
            Check.same("its base", x.told(3), 0);
            Check.same("its entry", x.told(1), 0);
            Check.same("its first byte", x.read(0, 1), 0x44);
        }
        Twin.faulty("sort 3 does not", Twin.fresh(64, TestImage.plain(16384)), 256, 13, 60);
    }

    private static void tapeStays() {
        Check.sentence("load: The tape stays.");
        ImageLoader x = plain().on(4);
        ImageLoader y = plain().on(4);
        Check.same("a sound one", x.load(0), 0);
        Check.same("its bytes", x.count(4), 92);
        for (int i = -1; i <= 93; i++) {
            Check.same("byte " + i, x.peek(i), y.peek(i));
        }
        Check.same("it is there for another load", x.load(256), 0);
        Check.same("and for another one that fails", x.load(256), -24);
        Check.same("its bytes", x.count(4), 92);
    }

    private static void answers() {
        Check.sentence("load: how many relocations were done; -10 less its FAULT");
        int[] counts = {0, 1, 2, 59, 60};
        for (int count : counts) {
            ImageLoader x = relocations(count).on(9);
            Check.same(count + " relocations", x.load(0), count);
            Check.same("no fault", x.told(0), NONE);
        }
        Check.same("the first fault", new ImageLoader(1).load(0), -11);
        TestImage last = relocations(1).words(148, 7, 512, 8, 12, 9, 12, 6, 1024, 11, 16);
        last.head(0, 1, 188, 0, 12, 2048, 7, 0).size(200).words(188, 4, 0x101, 0);
        last.words(148, 7, 0);
        Twin.faulty("the last fault", Twin.fresh(9, last), 0, 23, 0);
        Check.same("its answer", last.on(9).load(0), -33);
    }

    /** Relocations of 0s in a segment of 2048 0s. */
    private static TestImage relocations(int count) {
        TestImage image = new TestImage(3, 0, 2, 188);
        image.head(0, 1, 0, 0, 0, 2048, 7, 0).head(1, 2, 148, 0, 40, 0, 0, 0);
        return image.words(148, 7, 512, 8, 12L * count, 9, 12);
    }

    private static void tooShort() {
        Check.sentence("1 it has fewer than 52 bytes (how many it has)");
        int[] sizes = {0, 1, 7, 8, 50, 51};
        for (int size : sizes) {
            faulty("of " + size, plain().size(size), 1, size);
        }
        faulty("of 52", plain().size(52), 8, 28);
        faulty("of 52, with its table in it, which has no segment", plain().size(52).word(28, 8), 17, 44);
        faulty("of 53", plain().size(53), 8, 28);
        faulty("of 51 that is no image at all", plain().put(0, 0).size(51), 1, 51);
        faulty("of 52 that is no image at all", plain().put(0, 0).size(52), 2, 0);
    }

    private static void firstBytes() {
        Check.sentence("2 one of the bytes 0 .. 6 is not 127, 69, 76, 70, 1, 1, 1 (the first such)");
        int[] due = {127, 69, 76, 70, 1, 1, 1};
        for (int i = 0; i < 7; i++) {
            faulty("one above, at " + i, plain().put(i, due[i] + 1), 2, i);
            faulty("one below, at " + i, plain().put(i, due[i] - 1), 2, i);
            faulty("0 at " + i, plain().put(i, 0), 2, i);
            faulty("255 at " + i, plain().put(i, 255), 2, i);
            TestImage image = plain();
            for (int k = i; k < 7; k++) {
                image.put(k, 9);
            }
            faulty("all from " + i + " on", image, 2, i);
        }
        for (int value = 0; value <= 255; value += 85) {
            plain().put(7, value).sound("byte 7 is " + value, 0, 0);
        }
    }

    private static void sort() {
        Check.sentence("3 H(16), the SORT, is not 2 or 3 (16)");
        int[] wrong = {0, 1, 4, 5, 0x102, 0x103, 0x200, 0x300, 0x8002, 0x8003, 0xFFFF};
        for (int sort : wrong) {
            faulty("sort " + sort, plain().half(16, sort), 3, 16);
        }
        plain().half(16, 2).sound("sort 2", 0, 0);
        plain().half(16, 3).sound("sort 3", 0, 0);
    }

    private static void machine() {
        Check.sentence("4 H(18) is not 243 (18)");
        int[] wrong = {0, 242, 244, 243 + 256, 243 << 8, 0x80F3, 0xFFFF};
        for (int machine : wrong) {
            faulty("H(18) is " + machine, plain().half(18, machine), 4, 18);
        }
        plain().half(18, 243).sound("243", 0, 0);
    }

    private static void version() {
        Check.sentence("5 W(20) is not 1 (20)");
        long[] wrong = {0, 2, 0x101, 0x10001, 0x1000001, 0x80000001L, 0xFFFFFFFFL};
        for (long version : wrong) {
            faulty("W(20) is " + version, plain().word(20, version), 5, 20);
        }
        plain().word(20, 1).sound("1", 0, 0);
    }

    private static void sizes() {
        Check.sentence("6 H(40) is not 52 (40), or H(42) not 32 (42)");
        int[] wrong = {0, 51, 53, 52 + 256, 32, 0x8034, 0xFFFF};
        for (int size : wrong) {
            faulty("H(40) is " + size, plain().half(40, size), 6, 40);
            faulty("H(40) is " + size + ", H(42) wrong, too", plain().half(40, size).half(42, 52), 6, 40);
        }
        int[] wrongHeads = {0, 31, 33, 32 + 256, 52, 0x8020, 0xFFFF};
        for (int size : wrongHeads) {
            faulty("H(42) is " + size, plain().half(42, size), 6, 42);
        }
        plain().half(40, 52).half(42, 32).sound("52 and 32", 0, 0);
    }

    private static void heads() {
        Check.sentence("7 H(44), the number of HEADS, is not 1 .. 8 (44)");
        for (int n = 1; n <= 8; n++) {
            plain().size(900).half(44, n).head(0, 1, 84, 0, 8, 8, 7, 1).sound(n + " heads", 0, 0);
        }
        int[] wrong = {0, 9, 10, 256, 257, 0x8001, 0xFFFF};
        for (int n : wrong) {
            faulty(n + " heads", plain().size(900).half(44, n), 7, 44);
            faulty(n + " heads and no table", plain().half(44, n).word(28, 9000), 7, 44);
        }
    }

    private static void table() {
        Check.sentence("8 the table of heads, 32 bytes each from place W(28) on, is not wholly on the tape (28)");
        for (int n = 1; n <= 8; n++) {
            int size = 52 + 32 * n;
            TestImage image = new TestImage(3, 0, n, size).head(n - 1, 1, 0, 0, 4, 4, 7, 0);
            image.sound("up to the end", 0, 0);
            faulty("from one place further on", image.word(28, 53), 8, 28);
            faulty("a byte lacks", image.word(28, 52).size(size - 1), 8, 28);
        }
        TestImage full = new TestImage(3, 0, 1, 900).word(28, 868).words(868, 1, 0, 0, 0, 4, 4, 7, 0);
        full.sound("the last 32 of 900", 0, 0);
        long[] beyond = {869, 899, 900, 901, 0x7FFFFFE0L, 0x7FFFFFFFL, 0x80000000L, 0xFFFFFFDFL, 0xFFFFFFE0L, 0xFFFFFFFFL};
        for (long place : beyond) {
            faulty("from " + place + " on", full.word(28, place), 8, 28);
        }
        faulty("from 0 on it is wholly there, but no segment", full.word(28, 0), 17, 44);
    }

    private static void firstFault() {
        Check.sentence("Its FAULT is the first of these (each has a number, and the place is told behind it)");
        TestImage image = plain().put(6, 0).half(16, 4).half(18, 1).word(20, 2).half(40, 1).half(42, 1).half(44, 9).word(28, 900);
        faulty("1 before 2", image.size(51), 1, 51);
        image.size(92).word(56, 84).word(60, 0).word(68, 8).word(72, 7).word(76, 7).word(80, 1).word(52, 1);
        faulty("2 before 3", image, 2, 6);
        faulty("3 before 4", image.put(6, 1), 3, 16);
        faulty("4 before 5", image.half(16, 3), 4, 18);
        faulty("5 before 6", image.half(18, 243), 5, 20);
        faulty("6 before 7", image.word(20, 1), 6, 40);
        faulty("6 in H(42) before 7", image.half(40, 52), 6, 42);
        faulty("7 before 8", image.half(42, 32), 7, 44);
        faulty("8 before 9", image.half(44, 1), 8, 28);
        faulty("9 at last", image.word(28, 52), 9, 72);
        image.word(72, 8).sound("none", 0, 0);
    }

    private static void tells(ImageLoader x, int place, int entry, int pages, int base) {
        Check.same("told(0)", x.told(0), place);
        Check.same("told(1)", x.told(1), entry);
        Check.same("told(2)", x.told(2), pages);
        Check.same("told(3)", x.told(3), base);
    }

    private static void toldPlace() {
        Check.sentence("told: Of the latest load() that was not BAD: what = 0 the place of its FAULT (NONE: it had none)");
        ImageLoader x = new ImageLoader(9);
        Check.same("before all loads", x.told(0), NONE);
        x.load(1);
        Check.same("a BAD one is none", x.told(0), NONE);
        x.load(0);
        Check.same("place 0: it has no bytes", x.told(0), 0);
        x.load(-256);
        Check.same("a BAD one changes nothing", x.told(0), 0);
        plain().onto(x);
        x.load(16384);
        Check.same("nor does this one", x.told(0), 0);
        x.load(0);
        Check.same("a sound one", x.told(0), NONE);
        x.load(0);
        Check.same("a faulty one behind it", x.told(0), 60);
        x.load(256);
        Check.same("a sound one behind it", x.told(0), NONE);
        x.load(16385);
        Check.same("a BAD one behind it", x.told(0), NONE);
    }

    private static void toldNumbers() {
        Check.sentence("told: 1 its ENTRY, 2 how many pages it mapped, 3 its BASE as it counted");
        int[] helds = {1, 256, 257, 512, 513, 16128};
        for (int held : helds) {
            for (int entry = 0; entry < held; entry += Math.max(1, held - 1)) {
                ImageLoader x = TestImage.plain(held).word(68, 0).word(24, entry).on(64);
                Check.same("held " + held, x.load(256), 0);
                tells(x, NONE, 256 + entry, (held + 255) / 256, 256);
                x = TestImage.plain(held).word(68, 0).word(24, entry).half(16, 2).on(64);
                Check.same("sort 2, held " + held, x.load(256), 0);
                tells(x, NONE, entry, (held + 255) / 256, 0);
            }
        }
        ImageLoader all = TestImage.plain(16384).word(24, 16383).on(64);
        Check.same("all pages", all.load(0), 0);
        tells(all, NONE, 16383, 64, 0);
        ImageLoader last = TestImage.plain(256).word(24, 255).on(64);
        Check.same("the last page", last.load(16128), 0);
        tells(last, NONE, 16383, 1, 16128);
        TestImage two = new TestImage(3, 0, 2, 116).head(0, 1, 0, 255, 0, 2, 7, 0).head(1, 1, 0, 1024, 0, 257, 7, 0);
        ImageLoader x = two.word(24, 256).on(64);
        Check.same("two segments", x.load(0), 0);
        tells(x, NONE, 256, 4, 0);
    }

    private static void toldOfSound() {
        Check.sentence("told: 1 to 3: of the latest one without a FAULT; NONE: there was none");
        ImageLoader x = new ImageLoader(9);
        tells(x, NONE, NONE, NONE, NONE);
        x.load(0);
        tells(x, 0, NONE, NONE, NONE);
        TestImage.plain(257).word(24, 256).onto(x);
        x.load(512);
        tells(x, NONE, 768, 2, 512);
        x.load(512);
        tells(x, 60, 768, 2, 512);
        x.load(513);
        tells(x, 60, 768, 2, 512);
        TestImage.plain(256).word(24, 255).half(16, 2).onto(x);
        x.load(16128);
        tells(x, NONE, 255, 1, 0);
        x.unmap(0, 64);
        x.stack(9);
        tells(x, NONE, 255, 1, 0);
        x.cut(0);
        x.load(0);
        tells(x, 0, 255, 1, 0);
        ImageLoader late = relocations(1).words(148, 7, 2037).on(64);
        Check.same("a fault when it was laid", late.load(256), -30);
        tells(late, 0, NONE, NONE, NONE);
    }

    private static void toldBad() {
        Check.sentence("told: BAD");
        int[] bad = {Integer.MIN_VALUE, -2, -1, 4, 5, 64, Integer.MAX_VALUE};
        for (int what : bad) {
            Twin.same("told(" + what + ")", Twin.used(64, plain()), x -> x.told(what), BAD);
            Twin.same("told(" + what + ") of a fresh one", Twin.fresh(64), x -> x.told(what), BAD);
        }
        Twin.same("told(0) changes nothing", Twin.used(64, plain()), x -> x.told(0), 60);
        Twin.same("told(3) changes nothing", Twin.used(64, plain()), x -> x.told(3), 10240);
    }
}
