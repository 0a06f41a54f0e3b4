/** Promise 7: what is dynamic, and the relocations, faults 19 to 23. */
public final class RelocationTest {
    // The image: a header, three heads, then what segment 0 is filed with, then the pairs.
    private static final int FILED = 148;
    private static final int FILED_BYTES = 200;
    private static final int PAIRS = FILED + FILED_BYTES;
    private static final int RELOCATIONS = 0;
    private static final int SYMBOLS = 120;
    private static final int TARGET = 184;

    public static void main(String[] args) {
        sorts();
        pairs();
        sizes();
        heldBytes();
        otherSorts();
        symbols();
        readWhatWasWritten();
        acrossSegments();
        faultLeavesAll();
        lastDynamicHead();
        nothingIsKept();
        Check.end();
    }

    /** Segment 0 has the relocations at 0, five symbols at 120, the words to be changed at 184. */
    private static TestImage image(int sort, int count) {
        TestImage image = new TestImage(sort, 0, 3, PAIRS + 64);
        image.head(0, 1, FILED, 0, FILED_BYTES, 200, 5, 4).head(1, 2, PAIRS, 0, 64, 0, 0, 0);
        image.head(2, 1, 0, 1024, 0, 512, 6, 0);
        for (int i = 0; i < 4; i++) {
            image.words(FILED + SYMBOLS + 16 * i, 77, 1000 + i, 5, 0x00010000L * i);
        }
        pair(image, 0, 7, RELOCATIONS);
        pair(image, 1, 8, 12L * count);
        pair(image, 2, 9, 12);
        pair(image, 3, 6, SYMBOLS);
        pair(image, 4, 11, 16);
        return image;
    }

    private static void pair(TestImage image, int i, long key, long value) {
        image.words(PAIRS + 8 * i, key, value);
    }

    private static TestImage relocation(TestImage image, int i, long where, long what, long more) {
        return image.words(FILED + 12 * i, where, what, more);
    }

    private static void sorts() {
        TestImage image = image(3, 4);
        relocation(image, 0, TARGET, 3, 5);
        relocation(image, 1, TARGET + 4, 0x0201, 7);
        relocation(image, 2, TARGET + 8, 0x0001, 0xFFFFFFFFL);
        relocation(image, 3, TARGET + 12, 0xFFFFFF00L, 9);
        image.word(FILED + TARGET + 12, 4711);
        ImageLoader x = image.on(64);
        Check.same("four are done", x.load(512), 4);
        Check.same("sort 3", x.read(512 + TARGET, 4), 512 + 5);
        Check.same("sort 1", x.read(512 + TARGET + 4, 4), 1002 + 512 + 7);
        Check.same("sort 1 of symbol 0", x.read(512 + TARGET + 8, 4), 0xFFFFFFFFL);
        Check.same("sort 0", x.read(512 + TARGET + 12, 4), 4711);
        Check.same("the pages", x.told(2), 3);
        x = image.half(16, 2).on(64);
        Check.same("four are done, sort 2", x.load(512), 4);
        Check.same("sort 3 with the base 0", x.read(TARGET, 4), 5);
        Check.same("sort 1 with the base 0", x.read(TARGET + 4, 4), 1009);
        image = image(3, 3);
        relocation(image, 0, TARGET, 3, 0xFFFFFFFFL);
        relocation(image, 1, TARGET + 5, 0x0101, 0xFFFFFFFFL);
        relocation(image, 2, 1024 + 508, 3, 0x80000000L);
        x = image.on(64);
        Check.same("sums that run over", x.load(256), 3);
        Check.same("sort 3 runs over", x.read(256 + TARGET, 4), 255);
        Check.same("at an odd address", x.read(256 + TARGET + 5, 1), (1001 + 255) & 255);
        Check.same("its second byte", x.read(256 + TARGET + 6, 1), (1001 + 255) >> 8);
        Check.same("its last byte", x.read(256 + TARGET + 8, 1), 0);
        Check.same("in a segment that may not be fetched", x.read(256 + 1024 + 508, 4), 0x80000100L);
    }

    private static void pairs() {
        image(3, 0).sound("no relocations", 0, 0);
        TestImage image = image(3, 1);
        pair(image, 0, 0, 0);
        image.sound("pairs end at a first word 0", 0, 0);
        image = image(3, 1);
        pair(image, 5, 8, 0);
        image.sound("of several the last one", 0, 0);
        pair(image, 6, 8, 24);
        relocation(image, 1, 0, 0, 0).sound("of three the last one", 0, 2);
        pair(image, 5, 0x10008, 5);
        pair(image, 6, 0x80000008L, 5);
        pair(image, 7, 10, 5);
        relocation(image, 0, TARGET, 3, 1).sound("others mean nothing", 0, 1);
        pair(image, 0, 5, 9);
        pair(image, 1, 5, 9);
        image.sound("0 if not told", 0, 0);
        pair(image, 2, 5, 9);
        pair(image, 1, 8, 12);
        image.faulty("0 each if not told", 0, 19, 84);
        image = image(3, 1);
        relocation(image, 0, TARGET, 0x101, 1);
        image.sound("with the symbols", 0, 1);
        pair(image, 4, 5, 16);
        image.faulty("0 bytes of a symbol if not told", 0, 22, 0);
        image = image(3, 1);
        image.word(100, 8).sound("filed bytes of the head alone count", 0, 0);
        image.word(100, 16).faulty("two pairs alone", 0, 19, 84);
        image.word(100, 24).sound("three pairs", 0, 1);
        image.word(84, 9).sound("without a head of kind 2", 0, 0);
    }

    private static void sizes() {
        long[] wrong = {1, 11, 13, 23, 61 * 12, 732, 12 * 100, 0x80000000L, 0xFFFFFFFFL, 0xFFFFFFFCL, 0xFFFFFFF4L};
        for (long bytes : wrong) {
            TestImage image = image(3, 0);
            pair(image, 1, 8, bytes);
            image.faulty("bytes " + bytes, 0, 19, 84);
        }
        long[] each = {0, 1, 11, 13, 24, 0x8000000CL, 0x10CL};
        for (long n : each) {
            TestImage image = image(3, 1);
            pair(image, 2, 9, n);
            image.faulty("each " + n, 0, 19, 84);
            pair(image, 1, 8, 0);
            image.sound("each " + n + " of none", 0, 0);
        }
        TestImage image = image(3, 60);
        pair(image, 0, 7, 1024);
        image.word(148 - 12, 720).sound("sixty that do nothing", 0, 60);
        image.word(148 - 12, 719).faulty("the sixtieth is not held", 0, 20, 59);
        pair(image, 1, 8, 61 * 12);
        image.word(148 - 12, 2000).faulty("sixty-one", 0, 19, 84);
    }

    private static void heldBytes() {
        long[] beyond = {197, 198, 200, 255, 300, 1022, 1023, 1533, 1536, 16380, 16384, 0x7FFFFFFEL, 0xFFFFFFFCL, 0xFFFFFFFFL};
        long[] within = {0, 196, 1024, 1532};
        for (int kind = 0; kind < 3; kind++) {
            int what = kind == 2 ? 3 : kind;
            for (long where : beyond) {
                TestImage image = relocation(image(3, 2), 0, TARGET, 3, 0);
                relocation(image, 1, where, what, 0).faulty("where " + where, 0, 20, 1);
                image.faulty("where " + where + " and a base", 2048, 20, 1);
            }
            for (long where : within) {
                TestImage image = relocation(image(3, 2), 0, TARGET, 0, 0);
                relocation(image, 1, where, what, 0).sound("where " + where, 2048, 2);
            }
        }
        relocation(image(3, 1), 0, 197, 2, 0).faulty("20 comes before 21", 0, 20, 0);
        long[] tables = {189, 200, 16384, 1020, 1536 - 11, 0xFFFFFFFFL, 0xFFFFFF00L, 0xFFFFFFF4L};
        for (long table : tables) {
            TestImage image = image(3, 1);
            pair(image, 0, 7, table);
            image.faulty("table at " + table, 256, 20, 0);
        }
        TestImage image = image(3, 1);
        pair(image, 0, 7, 1536 - 12);
        image.sound("the last place for one", 256, 1);
        image = image(3, 5);
        pair(image, 0, 7, 1536 - 48);
        image.faulty("the fifth is too many", 256, 20, 4);
        TestImage table = image(3, 1);
        pair(table, 0, 7, 188);
        table.sound("the last place in the first segment", 0, 1);
    }

    private static void otherSorts() {
        for (int sort = 0; sort < 256; sort++) {
            if (sort != 0 && sort != 1 && sort != 3) {
                relocation(image(3, 2), 0, TARGET, sort, 0).faulty("sort " + sort, 0, 21, 0);
                relocation(image(3, 2), 1, TARGET, sort + 0x100, 0).faulty("sort " + sort, 0, 21, 1);
            }
        }
        relocation(image(3, 1), 0, TARGET, 0xFFFFFF03L, 0).sound("sort 3 has no symbol", 0, 1);
        relocation(image(3, 1), 0, TARGET, 0xFFFFFF00L, 0).sound("sort 0 has no symbol", 0, 1);
        relocation(image(3, 1), 0, TARGET, 0xFFFFFF01L, 0).faulty("sort 1 has one", 0, 22, 0);
    }

    private static void symbols() {
        relocation(image(3, 1), 0, TARGET, 0x401, 0).faulty("bytes 184 to 199 are a symbol without a place", 0, 23, 0);
        relocation(image(3, 1), 0, TARGET, 0x501, 0).faulty("the sixth is not held", 0, 22, 0);
        TestImage image = relocation(image(3, 1), 0, TARGET, 0x101, 0);
        image.half(FILED + SYMBOLS + 30, 0).faulty("symbol 1 without a place", 0, 23, 0);
        image.half(FILED + SYMBOLS + 30, 0x100).sound("the high byte counts", 0, 1);
        image.half(FILED + SYMBOLS + 30, 0).half(FILED + SYMBOLS + 28, 1).faulty("bytes before don't", 0, 23, 0);
        relocation(image(3, 1), 0, TARGET, 1, 0).sound("symbol 0 needs no place", 0, 1);
        long[] sizes = {0, 15, 17, 32, 0x10010L, 0x80000010L};
        for (long size : sizes) {
            for (int number = 0; number < 2; number++) {
                image = relocation(image(3, 1), 0, TARGET, 256 * number + 1, 0);
                pair(image, 4, 11, size);
                image.faulty("a symbol's size " + size, 0, 22, 0);
                relocation(image, 0, TARGET, 256 * number + 3, 0).sound("it matters to sort 1 alone", 0, 1);
            }
        }
        long[] places = {185, 200, 1023, 1536 - 15, 16384, 0xFFFFFFFFL};
        for (long place : places) {
            image = relocation(image(3, 1), 0, TARGET, 1, 0);
            pair(image, 3, 6, place);
            image.faulty("symbol 0 at " + place, 0, 22, 0);
        }
        image = relocation(image(3, 1), 0, TARGET, 1, 0);
        pair(image, 3, 6, 1536 - 16);
        image.sound("symbol 0 in the last place", 512, 1);
        image = relocation(image(3, 1), 0, TARGET, 0x1101, 5);
        pair(image, 3, 6, 0x100000000L + SYMBOLS - 16 * 16);
        ImageLoader x = image.on(64);
        Check.same("the symbol's address runs over", x.load(512), 1);
        Check.same("its value", x.read(512 + TARGET, 4), 1001 + 512 + 5);
        image = relocation(image(3, 1), 0, TARGET, 0x201, 1);
        image.word(FILED + SYMBOLS + 36, 0xFFFFFFFFL);
        x = image.on(64);
        Check.same("a value that runs over", x.load(512), 1);
        Check.same("is this", x.read(512 + TARGET, 4), 512);
    }

    /** The first one changes the second one's words, the second one a symbol that the third one reads. */
    private static void readWhatWasWritten() {
        TestImage image = image(3, 3);
        relocation(image, 0, 12, 3, SYMBOLS + 20 - 512);
        relocation(image, 1, 0xFFFFFFFFL, 3, 2000);
        relocation(image, 2, TARGET, 0x101, 1);
        ImageLoader x = image.on(64);
        Check.same("three are done", x.load(512), 3);
        Check.same("where was written", x.read(512 + 12, 4), SYMBOLS + 20);
        Check.same("the symbol was written", x.read(512 + SYMBOLS + 20, 4), 2512);
        Check.same("its value was read", x.read(512 + TARGET, 4), 2512 + 512 + 1);
        image = relocation(image(3, 1), 0, 4, 3, 77);
        x = image.on(64);
        Check.same("it changes itself", x.load(512), 1);
        Check.same("its second word", x.read(512 + 4, 4), 512 + 77);
    }

    private static void acrossSegments() {
        TestImage image = new TestImage(3, 0, 3, 200);
        image.head(0, 1, 148, 0, 0, 256, 5, 0).head(1, 1, 148, 256, 0, 256, 4, 0).head(2, 2, 148, 0, 40, 0, 0, 0);
        image.words(148, 7, 250, 8, 12, 9, 12, 6, 250, 11, 16);
        ImageLoader x = image.on(64);
        Check.same("one that lies in two segments", x.load(1024), 1);
        image.head(0, 1, 148, 0, 0, 255, 5, 0).faulty("a gap between them", 1024, 20, 0);
        image.head(0, 1, 148, 0, 0, 256, 5, 0).head(1, 1, 148, 257, 0, 255, 4, 0);
        image.faulty("a gap of one byte", 1024, 20, 0);
        image.head(1, 1, 148, 512, 0, 256, 4, 0);
        ImageLoader y = TestImage.plain(256).on(64);
        Check.same("another image lies between", y.load(1280), 0);
        image.onto(y);
        Check.same("pages of others don't count", y.load(1024), -30);
        Check.same("at the first one", y.told(0), 0);
        Check.same("the other one stays", y.count(0), 1);
    }

    private static void faultLeavesAll() {
        ImageLoader x = TestImage.plain(300).on(8);
        Check.same("a sound one", x.load(4096), 0);
        x.protect(16, 3);
        int before = x.sum(0, 64);
        TestImage image = relocation(image(3, 4), 0, TARGET, 3, 5);
        relocation(image, 1, TARGET + 4, 3, 5);
        relocation(image, 2, TARGET, 9, 5);
        image.onto(x);
        Check.same("the third one is faulty", x.load(512), -31);
        Check.same("at the third one", x.told(0), 2);
        Check.same("the entry of the sound one", x.told(1), 4096);
        Check.same("its pages", x.told(2), 2);
        Check.same("its base", x.told(3), 4096);
        Check.same("the space", x.sum(0, 64), before);
        Check.same("pages", x.count(0), 2);
        Check.same("rights", x.rights(16), 3);
        Check.same("no rights", x.rights(2), ImageLoader.NONE);
        Check.same("images", x.count(5), 1);
        Check.same("the tape", x.count(4), PAIRS + 64);
        relocation(image, 2, TARGET, 0, 5).onto(x);
        relocation(image, 3, TARGET, 0, 5).onto(x);
        Check.same("mended", x.load(512), 4);
        Check.same("frames were not used up", x.count(0), 5);
        Check.same("relocated once", x.read(512 + TARGET, 4), 517);
    }

    /** Each load tells its own pairs: what an earlier one told does not count. */
    private static void nothingIsKept() {
        for (int missing = 0; missing < 5; missing++) {
            ImageLoader x = new ImageLoader(64);
            TestImage image = relocation(image(3, 1), 0, TARGET, 0x101, 0);
            if (missing == 0) {
                // The table is elsewhere at first, and faulty at 0, where it is if it is not told.
                pair(image, 0, 7, 1024);
                relocation(image, 0, 197, 3, 0);
            }
            image.onto(x);
            Check.same("all pairs", x.load(0), 1);
            x.unmap(0, 64);
            int[] keys = {7, 8, 9, 6, 11};
            pair(image, missing, 5, 5);
            image.onto(x);
            int[] due = {-30, 0, -29, -33, -32};
            Check.same("without " + keys[missing], x.load(0), due[missing]);
        }
        ImageLoader x = image(3, 2).on(64);
        Check.same("two", x.load(0), 2);
        x.unmap(0, 64);
        TestImage.plain(8).onto(x);
        Check.same("none without a head of kind 2", x.load(0), 0);
        TestImage image = image(3, 1);
        pair(image, 0, 7, 1024);
        image.onto(x);
        Check.same("a table in the third head", x.load(2048), 1);
        image.head(2, 0, 0, 0, 0, 0, 0, 0).onto(x);
        Check.same("which is no segment now", x.load(6144), -30);
    }

    private static void lastDynamicHead() {
        TestImage image = image(3, 1);
        image.head(2, 2, PAIRS + 48, 0, 8, 0, 0, 0).words(PAIRS + 48, 8, 5);
        image.faulty("the last one counts", 0, 19, 116);
        image.words(PAIRS + 48, 6, 5).sound("it has no relocations", 0, 0);
        image.head(1, 2, PAIRS + 48, 0, 8, 0, 0, 0).head(2, 2, PAIRS, 0, 64, 0, 0, 0);
        relocation(image, 0, TARGET, 0, 0).sound("it has one", 0, 1);
    }
}
