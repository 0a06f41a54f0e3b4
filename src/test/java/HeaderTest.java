/** Promise 7, faults 1 to 8, the base, and that an earlier fault hides a later one. */
public final class HeaderTest {
    public static void main(String[] args) {
        base();
        sizes();
        identity();
        numbers();
        table();
        order();
        Check.end();
    }

    private static void base() {
        int[] bad = {-1, 1, 255, 257, 16127, 16129, 16384, -256, Integer.MIN_VALUE, Integer.MAX_VALUE, 0x7FFFFF00};
        for (int base : bad) {
            ImageLoader x = TestImage.plain(8).on(64);
            Check.same("load(" + base + ")", x.load(base), ImageLoader.BAD);
            Check.same("told(0) after a BAD load", x.told(0), ImageLoader.NONE);
            Check.same("nothing is mapped", x.count(0), 0);
            TestImage.plain(8).half(16, 2).onto(x);
            Check.same("load(" + base + ") of sort 2", x.load(base), ImageLoader.BAD);
        }
        for (int base = 0; base <= 16128; base += 256) {
            ImageLoader x = TestImage.plain(8).on(64);
            Check.same("load(" + base + ")", x.load(base), 0);
            Check.same("entry", x.told(1), base);
            Check.same("base", x.told(3), base);
            Check.same("its page", x.rights(base / 256), 7);
            Check.same("its bytes", x.read(base + 4, 4), 0x55667788L);
            Check.same("one page alone", x.count(0), 1);
            x = TestImage.plain(8).half(16, 2).on(64);
            Check.same("sort 2: load(" + base + ")", x.load(base), 0);
            Check.same("sort 2: base", x.told(3), 0);
            Check.same("sort 2: entry", x.told(1), 0);
            Check.same("sort 2: its page", x.rights(0), 7);
            Check.same("sort 2: one page alone", x.count(0), 1);
        }
    }

    private static void sizes() {
        int[] sizes = {0, 1, 6, 51};
        for (int size : sizes) {
            TestImage.plain(8).size(size).faulty("of " + size + " bytes", 0, 1, size);
        }
        TestImage.plain(8).size(52).faulty("of 52 bytes", 0, 8, 28);
        TestImage.plain(8).size(91).faulty("filed bytes lack one", 0, 10, 56);
        TestImage.plain(8).size(900).sound("a full tape", 0, 0);
    }

    private static void identity() {
        int[] magic = {127, 69, 76, 70, 1, 1, 1};
        for (int i = 0; i < 7; i++) {
            TestImage.plain(8).put(i, magic[i] + 1).faulty("byte " + i, 0, 2, i);
            TestImage.plain(8).put(i, magic[i] | 128).faulty("high byte " + i, 0, 2, i);
            TestImage.plain(8).put(i, 0).put(6, 0).faulty("the first of two", 0, 2, i);
        }
        for (int i = 7; i < 16; i++) {
            TestImage.plain(8).put(i, 77).sound("byte " + i + " means nothing", 0, 0);
        }
    }

    private static void numbers() {
        int[] sorts = {0, 1, 4, 0x102, 0x103, 0x203, 65535};
        for (int sort : sorts) {
            TestImage.plain(8).half(16, sort).faulty("sort " + sort, 0, 3, 16);
        }
        int[] machines = {0, 242, 244, 243 + 256, 65535};
        for (int machine : machines) {
            TestImage.plain(8).half(18, machine).faulty("machine " + machine, 0, 4, 18);
        }
        long[] versions = {0, 2, 257, 65537, 0x01000001L, 0x80000001L, -1};
        for (long version : versions) {
            TestImage.plain(8).word(20, version).faulty("version " + version, 0, 5, 20);
        }
        int[] sizes = {0, 31, 33, 51, 53, 52 + 256, 32 + 256, 65535};
        for (int size : sizes) {
            TestImage.plain(8).half(40, size).faulty("header's size " + size, 0, 6, 40);
            TestImage.plain(8).half(42, size).faulty("head's size " + size, 0, 6, 42);
        }
        TestImage.plain(8).half(40, 51).half(42, 33).faulty("both sizes", 0, 6, 40);
        int[] heads = {0, 9, 256, 257, 65535};
        for (int n : heads) {
            TestImage.plain(8).half(44, n).faulty("heads " + n, 0, 7, 44);
        }
        int[] free = {32, 36, 46, 48, 50};
        for (int place : free) {
            TestImage.plain(8).half(place, 0x1234).sound("what stands at " + place, 0, 0);
        }
    }

    private static void table() {
        for (int n = 1; n <= 8; n++) {
            int end = 52 + 32 * n;
            TestImage image = new TestImage(3, 0, n, end);
            image.head(n - 1, 1, 0, 0, 4, 4, 7, 0).sound(n + " heads", 0, 0);
            image.size(end - 1).faulty(n + " heads, the last one lacks a byte", 0, 8, 28);
        }
        long[] places = {61, 93, 0x7FFFFFFFL, 0x80000000L, 0xFFFFFFE0L, 0xFFFFFFFFL};
        for (long place : places) {
            TestImage.plain(8).word(28, place).faulty("table at " + place, 0, 8, 28);
        }
        TestImage moved = new TestImage(3, 0, 1, 132).word(28, 100);
        moved.words(100, 1, 0, 0, 0, 4, 4, 7, 0).sound("a table elsewhere", 0, 0);
        moved.words(100, 1, 0, 0, 0, 5, 4, 7, 0).faulty("places are where the table is", 0, 9, 120);
        TestImage odd = new TestImage(3, 0, 1, 132).word(28, 99).size(131);
        odd.words(99, 1, 0, 0, 0, 4, 4, 7, 0).sound("a table at an odd place", 0, 0);
    }

    /** Faults are mended from the first on; the next one is told each time. */
    private static void order() {
        TestImage image = TestImage.plain(8).put(3, 0).half(16, 9).half(18, 9).word(20, 9);
        image.half(40, 9).half(42, 9).half(44, 9).word(28, 9000);
        image.faulty("order", 0, 2, 3);
        image.put(3, 70).faulty("order", 0, 3, 16);
        image.half(16, 3).faulty("order", 0, 4, 18);
        image.half(18, 243).faulty("order", 0, 5, 20);
        image.word(20, 1).faulty("order", 0, 6, 40);
        image.half(40, 52).faulty("order", 0, 6, 42);
        image.half(42, 32).faulty("order", 0, 7, 44);
        image.half(44, 1).faulty("order", 0, 8, 28);
        image.word(28, 52).sound("order", 0, 0);
        image.put(3, 0).size(51).faulty("order", 0, 1, 51);
    }
}
