/** The edges of promise 7 from fault 9 to fault 18, and of laying, a sentence of the document each. */
public final class HeadEdgesTest {
    private static final int NONE = ImageLoader.NONE;
    private static final long HIGH = 0x80000000L;
    private static final long ALL = 0xFFFFFFFFL;

    public static void main(String[] args) {
        wordsOfAHead();
        kinds();
        headsInTurn();
        heldAndFiled();
        beyondTheTape();
        align();
        rests();
        addresses();
        pagesThatAreMapped();
        pagesOfSegmentsBefore();
        frames();
        dynamicBeyondTheTape();
        dynamicFiled();
        noSegment();
        entryPlace();
        entryRight();
        entryAndBase();
        rights();
        pagesLaid();
        pagesOfOthers();
        bytesLaid();
        nothingHeld();
        Check.end();
    }

    /** One segment, at place 52, in a tape of 92 bytes; its entry is its first address. */
    private static TestImage one(long offset, long address, long filed, long held, long rights, long align) {
        TestImage image = new TestImage(3, address, 1, 92).head(0, 1, offset, address, filed, held, rights, align);
        return image.words(84, 0x14131211, 0x18171615);
    }

    /** Two segments, at 52 and 84; the entry is the first one's first address. */
    private static TestImage two(long first, long firstHeld, long second, long secondHeld) {
        TestImage image = new TestImage(3, first, 2, 116).head(0, 1, 0, first, 0, firstHeld, 7, 0);
        return image.head(1, 1, 0, second, 0, secondHeld, 5, 0);
    }

    private static void faulty(String what, TestImage image, int base, int fault, int place) {
        Twin.faulty(what, Twin.used(64, image), base, fault, place);
        Twin.faulty(what, Twin.fresh(64, image), base, fault, place);
    }

    private static void faulty(String what, TestImage image, int fault, int place) {
        faulty(what, image, 0, fault, place);
    }

    /** Every byte of a head that means something, with a head that would be faulty on both sides of it. */
    private static void wordsOfAHead() {
        Check.sentence("A head at place t: W(t) its KIND, W(t + 4) its OFFSET, W(t + 8) its ADDRESS, W(t + 16) its FILED bytes, "
            + "W(t + 20) its HELD bytes, W(t + 24) its rights (their lowest three bits, as in 1), W(t + 28) its ALIGN.");
        int[] places = {52, 53, 100, 800, 868};
        for (int t : places) {
            TestImage image = new TestImage(3, 0x300, 1, 900).word(28, t).words(t, 1, 16, 0x310 - 16, 7, 4, 0x120, 5, 16);
            ImageLoader x = image.on(9);
            Check.same("a head at " + t, x.load(1024), 0);
            Check.same("its pages", x.told(2), 2);
            Check.same("its rights", x.rights(7), 5);
            Check.same("its offset, its address", x.read(1024 + 0x300, 4), 0x00F30003);
            Check.same("its filed bytes", x.read(1024 + 0x304, 4), 0);
            faulty("its kind", image.word(t, 3), 17, 44);
            faulty("its filed bytes, its held bytes", image.word(t, 1).word(t + 16, 0x121), 9, t + 20);
            faulty("its offset", image.word(t + 16, 4).word(t + 4, 897), 10, t + 4);
            faulty("its align", image.word(t + 4, 16).word(t + 28, 17), 11, t + 28);
            faulty("its align and its offset", image.word(t + 28, 32), 12, t + 8);
            faulty("its address", image.word(t + 28, 16).word(t + 8, 0x4000), 13, t + 8);
            faulty("its rights", image.word(t + 8, 0x300).word(t + 24, 6), 18, 24);
        }
        long[] anything = {0, 1, 0x80000000L, 0xFFFFFFFFL};
        for (long v : anything) {
            one(0, 0, 4, 4, 7, 0).word(52 + 12, v).sound("W(t + 12) means nothing", 0, 0);
        }
    }

    private static void kinds() {
        Check.sentence("Those of kind 1 are SEGMENTS.");
        one(0, 0, 4, 4, 7, 0).sound("kind 1", 0, 0);
        long[] others = {0, 2, 3, 4, 0x101, 0x10001, 0x1000001, HIGH + 1, ALL};
        for (long kind : others) {
            faulty("kind " + kind, one(0, 0, 0, 8, 7, 0).word(52, kind), 17, 44);
        }
        long[] meansNothing = {0, 3, 0x101, HIGH + 1, HIGH + 2, ALL};
        for (long kind : meansNothing) {
            faulty("kind " + kind + " has no faults", one(900, ALL, 9, 8, 7, 3).word(52, kind), 17, 44);
        }
    }

    private static void headsInTurn() {
        Check.sentence("All heads in turn, of each of kind 1");
        for (int i = 0; i < 8; i++) {
            TestImage image = new TestImage(3, 0, 8, 308);
            for (int k = 0; k < 8; k++) {
                image.head(k, 1, 0, 256 * k, 4, 4, 7, 0);
            }
            image.sound("eight segments", 0, 0);
            int t = 52 + 32 * i;
            faulty("9 in head " + i, image.word(t + 16, 5), 9, t + 20);
            if (i < 7) {
                faulty("9 in head " + i + " and the next one", image.word(t + 48, 5), 9, t + 20);
                faulty("11 in head " + i + ", 9 in the next one", image.word(t + 16, 4).word(t + 28, 3), 11, t + 28);
                faulty("9 in the next one alone", image.word(t + 28, 0), 9, t + 52);
            }
        }
        TestImage behind = new TestImage(3, 0, 1, 116).head(0, 1, 0, 0, 4, 4, 7, 0).head(1, 1, 900, 0, 5, 4, 7, 3);
        behind.sound("one behind the table is none", 0, 0);
    }

    private static void heldAndFiled() {
        Check.sentence("9 it has fewer held bytes than filed ones (t + 20)");
        long[][] wrong = {{1, 0}, {2, 1}, {8, 7}, {93, 92}, {HIGH, HIGH - 1}, {ALL, ALL - 1}, {ALL, 0}, {HIGH, 0}, {HIGH, 4}};
        for (long[] row : wrong) {
            faulty(row[0] + " filed, " + row[1] + " held", one(0, 0, row[0], row[1], 7, 0), 9, 72);
        }
        long[][] right = {{0, 1}, {1, 1}, {1, 2}, {8, 8}, {8, 9}, {92, 92}, {92, 16384}};
        for (long[] row : right) {
            one(0, 0, row[0], row[1], 7, 0).sound(row[0] + " filed, " + row[1] + " held", 0, 0);
        }
        faulty("as many: 10 is next", one(0, 0, ALL, ALL, 7, 0), 10, 56);
        faulty("none and none: 17 is next", one(0, 0, 0, 0, 7, 0), 17, 44);
        faulty("it comes before 10", one(93, 0, 2, 1, 7, 3), 9, 72);
    }

    private static void beyondTheTape() {
        Check.sentence("10 OFFSET and FILED go beyond the tape (t + 4)");
        long[][] right = {{0, 0}, {0, 91}, {0, 92}, {1, 91}, {84, 8}, {91, 0}, {91, 1}, {92, 0}};
        for (long[] row : right) {
            one(row[0], 0, row[1], 100, 7, 0).sound(row[1] + " from " + row[0] + " on", 0, 0);
        }
        long[][] wrong = {{0, 93}, {1, 92}, {85, 8}, {91, 2}, {92, 1}, {93, 0}, {900, 0}, {901, 0}, {HIGH, 0}, {ALL, 0}, {ALL, 1},
            {ALL - 7, 8}, {ALL - 7, 100}, {HIGH, 8}};
        for (long[] row : wrong) {
            faulty(row[1] + " from " + row[0] + " on", one(row[0], 0, row[1], 100, 7, 0), 10, 56);
        }
        faulty("halves do not run over", one(HIGH, 0, HIGH, HIGH, 7, 0), 10, 56);
        faulty("it comes before 11", one(85, 0, 8, 8, 7, 3), 10, 56);
        one(0, 0, 900, 900, 7, 0).size(900).sound("900 of 900", 0, 0);
        faulty("901 of 900", one(0, 0, 901, 901, 7, 0).size(900), 10, 56);
        faulty("900 of 899", one(0, 0, 900, 900, 7, 0).size(899), 10, 56);
    }

    private static void align() {
        Check.sentence("11 ALIGN is above 1 and no power of 2 up to 4096 (t + 28)");
        long[] right = {0, 1, 2, 4, 8, 16, 32, 64, 128, 256, 512, 1024, 2048, 4096};
        for (long align : right) {
            one(0, 0, 4, 4, 7, align).sound("align " + align, 0, 0);
        }
        for (long power = 4; power <= 4096; power *= 2) {
            faulty("one below " + power, one(0, 0, 4, 4, 7, power - 1), 11, 80);
            faulty("one above " + power, one(0, 0, 4, 4, 7, power + 1), 11, 80);
        }
        long[] wrong = {6, 12, 4098, 6144, 8192, 16384, 65536, 0x40000000L, HIGH, HIGH + 1, HIGH + 4096, ALL};
        for (long align : wrong) {
            faulty("align " + align, one(0, 0, 4, 4, 7, align), 11, 80);
        }
        faulty("of one without held bytes, too", one(0, 0, 0, 0, 7, 3), 11, 80);
        faulty("it comes before 12", one(1, 0, 4, 4, 7, 3), 11, 80);
    }

    private static void rests() {
        Check.sentence("12 ADDRESS and OFFSET leave not the same by ALIGN, if that is above 1 (t + 8)");
        for (long align = 2; align <= 4096; align *= 2) {
            long rest = Math.min(align - 1, 60);
            one(rest, rest, 4, 4, 7, align).sound("the same by " + align, 0, 0);
            one(rest, rest + align, 4, 4, 7, align).sound("one align more by " + align, 0, 0);
            faulty("one more by " + align, one(rest, rest + 1, 4, 4, 7, align), 12, 60);
            faulty("one less by " + align, one(rest, rest + align - 1, 4, 4, 7, align), 12, 60);
            faulty("half an align more by " + align, one(rest, rest + align / 2, 4, 4, 7, align), 12, 60);
        }
        one(60, 4, 4, 4, 7, 8).sound("the offset is greater", 0, 0);
        faulty("the offset is greater", one(60, 5, 4, 4, 7, 8), 12, 60);
        one(3, 0, 4, 4, 7, 0).sound("align 0 asks for nothing", 0, 0);
        one(3, 0, 4, 4, 7, 1).sound("align 1 asks for nothing", 0, 0);
        one(0, 4096, 4, 4, 7, 4096).sound("the base does not count", 256, 0);
        faulty("the base does not mend it", one(0, 3840, 4, 4, 7, 4096), 256, 12, 60);
        faulty("it comes before 13", one(0, 16385, 4, 4, 7, 2), 12, 60);
        faulty("no sign: 13 is next", one(1, ALL, 4, 4, 7, 2), 13, 60);
        faulty("of one without held bytes, too", one(1, 0, 0, 0, 7, 2), 12, 60);
    }

    private static void addresses() {
        Check.sentence("13 with the BASE, some of its held bytes are no address (t + 8)");
        long[][] right = {{0, 16384, 0}, {1, 16383, 0}, {16383, 1, 0}, {0, 16128, 256}, {0, 256, 16128}, {255, 1, 16128},
            {16127, 1, 256}};
        for (long[] row : right) {
            ImageLoader x = one(0, row[0], 1, row[1], 7, 0).on(64);
            String what = row[1] + " from " + row[0] + " on, base " + row[2];
            Check.same(what, x.load((int) row[2]), 0);
            Check.same(what + ": the highest is there", x.rights(63), 7);
        }
        long[][] wrong = {{0, 16385, 0}, {1, 16384, 0}, {16383, 2, 0}, {16384, 1, 0}, {16385, 1, 0}, {0, 16129, 256},
            {0, 257, 16128}, {255, 2, 16128}, {256, 1, 16128}, {16128, 1, 256}, {HIGH, 1, 0}, {ALL, 1, 0}, {ALL, 2, 0},
            {ALL - 255, 4, 256}, {ALL - 255, 1, 512}, {1, ALL, 0}, {0, ALL, 0}, {0, HIGH, 0}, {HIGH, HIGH, 0}, {ALL, ALL, 0}};
        for (long[] row : wrong) {
            String what = row[1] + " from " + row[0] + " on";
            Twin.faulty(what, Twin.fresh(64, one(0, row[0], 1, row[1], 7, 0)), (int) row[2], 13, 60);
            Twin.faulty(what, Twin.used(64, one(0, row[0], 1, row[1], 7, 0)), (int) row[2], 13, 60);
        }
        faulty("it comes before 14", one(0, 10240, 1, 16384, 7, 0), 13, 60);
        long[] anywhere = {0, 16384, HIGH, ALL};
        for (long address : anywhere) {
            ImageLoader x = two(512, 4, address, 0).on(64);
            Check.same("none held, at " + address, x.load(256), 0);
            Check.same("one page", x.count(0), 1);
        }
    }

    /** In the state that was used, pages 40 to 42 and 63 are mapped. */
    private static void pagesThatAreMapped() {
        Check.sentence("14 a page of its held bytes is mapped");
        int[][] wrong = {{10239, 2}, {10240, 1}, {10495, 1}, {10496, 256}, {10752, 1}, {11007, 1}, {11007, 2}, {10000, 2000},
            {9984, 257}, {0, 16384}, {16383, 1}, {16128, 1}, {16127, 2}};
        for (int[] row : wrong) {
            Twin.faulty(row[1] + " from " + row[0] + " on", Twin.used(64, one(0, row[0], 1, row[1], 7, 0)), 0, 14, 60);
        }
        int[][] right = {{10239, 1}, {9984, 256}, {0, 10240}, {11008, 1}, {11008, 5120}, {16127, 1}};
        for (int[] row : right) {
            ImageLoader x = Twin.used(64, one(0, row[0], 1, row[1], 7, 0)).made();
            Check.same(row[1] + " from " + row[0] + " on", x.load(0), 0);
            Check.same("its page", x.rights(row[0] / 256), 7);
        }
        Twin.faulty("with the base", Twin.used(64, one(0, 0, 1, 1, 7, 0)), 10240, 14, 60);
        Twin.faulty("with the base", Twin.used(64, one(0, 255, 1, 2, 7, 0)), 9984, 14, 60);
        Check.same("with the base", Twin.used(64, one(0, 255, 1, 1, 7, 0)).made().load(9984), 0);
        Check.same("without it", Twin.used(64, one(0, 0, 1, 1, 7, 0).half(16, 2)).made().load(10240), 0);
        Check.same("none held", Twin.used(64, two(0, 4, 10240, 0)).made().load(0), 0);
        Twin.faulty("the second one's", Twin.used(64, two(0, 4, 10240, 1)), 0, 14, 92);
        Twin.faulty("it comes before 15", Twin.used(4, one(0, 10240, 1, 1, 7, 0)), 0, 14, 60);
        ImageLoader gone = Twin.used(64, one(0, 10240, 1, 1, 7, 0)).made();
        gone.unmap(40, 1);
        Check.same("it is mapped no more", gone.load(0), 0);
    }

    private static void pagesOfSegmentsBefore() {
        Check.sentence("14 or a page of a segment before it (t + 8)");
        long[][] wrong = {{512, 1, 512, 1}, {512, 1, 767, 1}, {767, 1, 512, 1}, {512, 256, 511, 2}, {512, 256, 767, 2},
            {512, 257, 768, 1}, {512, 257, 1023, 1}, {767, 2, 768, 1}, {512, 512, 600, 1}, {600, 1, 512, 512}, {600, 1, 0, 4096}};
        for (long[] row : wrong) {
            faulty("second from " + row[2] + " on", two(row[0], row[1], row[2], row[3]), 14, 92);
            faulty("with a base", two(row[0], row[1], row[2], row[3]), 2048, 14, 92);
        }
        long[][] right = {{512, 1, 511, 1}, {512, 256, 768, 1}, {767, 1, 768, 256}, {512, 1, 256, 256}, {512, 257, 1024, 1},
            {512, 256, 0, 512}, {512, 256, 600, 0}, {512, 256, 512, 0}};
        for (long[] row : right) {
            two(row[0], row[1], row[2], row[3]).sound("second from " + row[2] + " on", 0, 0);
        }
        TestImage three = new TestImage(3, 0, 3, 148).head(0, 1, 0, 0, 0, 1, 7, 0).head(1, 1, 0, 512, 0, 1, 7, 0);
        three.head(2, 1, 0, 256, 0, 256, 7, 0).sound("between two", 0, 0);
        faulty("the first one's", three.head(2, 1, 0, 255, 0, 257, 7, 0), 14, 124);
        faulty("the second one's", three.head(2, 1, 0, 256, 0, 257, 7, 0), 14, 124);
        TestImage empty = new TestImage(3, 512, 2, 116).head(0, 1, 0, 600, 0, 0, 7, 0);
        empty.head(1, 1, 0, 512, 0, 256, 7, 0).sound("the first one has no page", 0, 0);
    }

    private static void frames() {
        Check.sentence("15 there are not as many frames as its pages and those of segments before it want (t + 20)");
        int[][] firstAndSecond = {{1, 1}, {256, 256}, {257, 1}, {1, 257}, {512, 512}};
        for (int[] row : firstAndSecond) {
            int first = (row[0] + 255) / 256;
            int second = (row[1] + 255) / 256;
            TestImage image = two(0, row[0], 1024, row[1]);
            Check.same("as many", image.on(first + second).load(0), 0);
            Check.same("one more", image.on(first + second + 1).load(0), 0);
            Twin.faulty("one less", Twin.fresh(first + second - 1, image), 0, 15, 104);
            Check.same("those that are left", Twin.used(4 + first + second, image).made().load(0), 0);
            Twin.faulty("one less is left", Twin.used(3 + first + second, image), 0, 15, 104);
            Twin.faulty("none is left", Twin.used(4, image), 0, 15, 72);
            if (first > 1) {
                Twin.faulty("the first one's lack", Twin.fresh(first - 1, image), 0, 15, 72);
            }
        }
        Check.same("64 pages, 64 frames", one(0, 0, 0, 16384, 7, 0).on(64).load(0), 0);
        Twin.faulty("64 pages, 63 frames", Twin.fresh(63, one(0, 0, 0, 16384, 7, 0)), 0, 15, 72);
        Check.same("63 pages, 63 frames", one(0, 0, 0, 16128, 7, 0).on(63).load(0), 0);
        Check.same("two bytes in two pages", one(0, 255, 0, 2, 7, 0).on(2).load(0), 0);
        Twin.faulty("two bytes in two pages", Twin.fresh(1, one(0, 255, 0, 2, 7, 0)), 0, 15, 72);
        Check.same("none held wants none", Twin.used(5, two(0, 1, 512, 0)).made().load(0), 0);
        ImageLoader x = one(0, 0, 0, 256, 7, 0).on(2);
        Check.same("one of two", x.load(0), 0);
        Check.same("two of two", x.load(256), 0);
        Check.same("three of two", x.load(512), -25);
        x.unmap(0, 1);
        Check.same("one is free again", x.load(512), 0);
        Check.same("no more than there are", x.count(0), 2);
    }

    private static TestImage dynamic(long offset, long filed) {
        TestImage image = new TestImage(3, 0, 2, 148).head(0, 1, 0, 0, 4, 4, 7, 0);
        return image.head(1, 2, offset, ALL, filed, 0, 0, 3);
    }

    private static void dynamicBeyondTheTape() {
        Check.sentence("Of each head of kind 2: 10 likewise");
        long[][] right = {{0, 0}, {148, 0}, {140, 8}, {116, 32}, {147, 0}};
        for (long[] row : right) {
            dynamic(row[0], row[1]).sound(row[1] + " from " + row[0] + " on", 0, 0);
        }
        long[][] wrong = {{149, 0}, {141, 8}, {117, 32}, {148, 8}, {0, 152}, {0, 149}, {900, 0}, {HIGH, 8}, {ALL, 0}, {ALL - 7, 8},
            {0, ALL}, {HIGH, HIGH}};
        for (long[] row : wrong) {
            faulty(row[1] + " from " + row[0] + " on", dynamic(row[0], row[1]), 10, 88);
        }
        faulty("it comes before 16", dynamic(142, 7), 10, 88);
        TestImage several = dynamic(140, 8).head(0, 2, 141, 0, 8, 0, 0, 0);
        faulty("the first of two", several, 10, 56);
        faulty("the second of two", several.word(56, 140).word(88, 141), 10, 88);
    }

    private static void dynamicFiled() {
        Check.sentence("16 FILED is no multiple of 8 (t + 16)");
        for (int filed = 0; filed <= 40; filed++) {
            if (filed % 8 == 0) {
                dynamic(108, filed).words(108, 0, 0).sound(filed + " filed", 0, 0);
            } else {
                faulty(filed + " filed", dynamic(100, filed), 16, 100);
            }
        }
        faulty("7 of none held", dynamic(141, 7), 16, 100);
        TestImage several = dynamic(140, 8).head(0, 2, 140, 0, 7, 0, 0, 0);
        faulty("the first of two", several, 16, 68);
        faulty("the second of two", several.word(68, 8).word(100, 7), 16, 100);
        faulty("a head behind it is asked later", dynamic(0, 7).head(0, 2, 0, 0, 1, 0, 0, 0), 16, 68);
    }

    private static void noSegment() {
        Check.sentence("17 none is a segment with held bytes (44)");
        faulty("none held", one(0, 0, 0, 0, 7, 0), 17, 44);
        one(0, 0, 0, 1, 7, 0).sound("one held", 0, 0);
        faulty("two, none held", two(0, 0, 512, 0), 17, 44);
        two(0, 0, 512, 1).word(24, 512).sound("two, one held by the second", 0, 0);
        two(0, 1, 512, 0).sound("two, one held by the first", 0, 0);
        faulty("a head of kind 2 holds nothing", dynamic(0, 0).word(52, 2).word(68, 0), 17, 44);
        faulty("it comes before 18", one(0, 0, 0, 0, 6, 0).word(24, 9000), 17, 44);
        faulty("and before 19", dynamic(132, 8).words(132, 8, 13).word(52, 0), 17, 44);
        faulty("the last of the heads comes before it", dynamic(149, 0).word(52, 0), 10, 88);
    }

    private static void entryPlace() {
        Check.sentence("18 the ENTRY, W(24) and the BASE, is no address in the held bytes of a segment");
        TestImage image = one(0, 300, 4, 100, 1, 0);
        long[] outside = {0, 256, 299, 400, 401, 511, 512, 16383, 16384, HIGH + 300, ALL};
        for (long entry : outside) {
            faulty("entry " + entry, image.word(24, entry), 18, 24);
        }
        long[] inside = {300, 301, 304, 398, 399};
        for (long entry : inside) {
            ImageLoader x = image.word(24, entry).on(9);
            Check.same("entry " + entry, x.load(512), 0);
            Check.same("it is told", x.told(1), 512 + entry);
        }
        TestImage several = two(0, 100, 512, 100);
        long[] between = {100, 255, 256, 511, 612};
        for (long entry : between) {
            faulty("of two: entry " + entry, several.word(24, entry), 18, 24);
        }
        long[] within = {0, 99, 512, 611};
        for (long entry : within) {
            several.word(24, entry).sound("of two: entry " + entry, 0, 0);
        }
        one(0, 0, 0, 16384, 1, 0).word(24, 16383).sound("the highest address", 0, 0);
        faulty("none held there", two(0, 4, 512, 0).word(24, 512), 18, 24);
        int[] ofAnother = {10244, 10495, 10496, 10500, 10752, 10760};
        for (int entry : ofAnother) {
            Twin.faulty("another image's", Twin.used(64, one(0, 0, 4, 4, 7, 0).word(24, entry)), 0, 18, 24);
            Twin.faulty("another image's", Twin.used(64, two(0, 4, 512, 4).word(24, entry)), 0, 18, 24);
        }
    }

    private static void entryRight() {
        Check.sentence("18 with the right to fetch (24)");
        for (int rights = 0; rights <= 9; rights++) {
            TestImage image = one(0, 0, 4, 4, rights, 0);
            if (rights % 2 == 1) {
                image.sound("rights " + rights, 0, 0);
            } else {
                faulty("rights " + rights, image, 18, 24);
            }
        }
        TestImage several = two(0, 4, 512, 4).word(76, 6);
        faulty("the first of two has it not", several, 18, 24);
        several.word(24, 512).sound("the second one has it", 0, 0);
        faulty("it comes before 19", dynamic(132, 8).words(132, 8, 13).word(76, 6), 18, 24);
    }

    private static void entryAndBase() {
        Check.sentence("the ENTRY, W(24) and the BASE");
        faulty("from below", one(0, 0, 4, 100, 1, 0).word(24, ALL - 255), 256, 18, 24);
        faulty("from below", one(0, 512, 4, 100, 1, 0).word(24, ALL - 255), 1024, 18, 24);
        faulty("the base is not in it yet", one(0, 0, 4, 100, 1, 0).word(24, 256), 256, 18, 24);
        ImageLoader x = one(0, 0, 4, 100, 1, 0).word(24, 99).half(16, 2).on(9);
        Check.same("sort 2", x.load(256), 0);
        Check.same("sort 2 has no base", x.told(1), 99);
    }

    private static void rights() {
        Check.sentence("with their rights");
        long[] all = {1, 3, 5, 7, 9, 0x0F, 0x101, 0xFFFFFFF9L, ALL, HIGH + 5};
        for (long rights : all) {
            ImageLoader x = one(0, 0, 4, 4, rights, 0).on(9);
            Check.same("rights " + rights, x.load(0), 0);
            Check.same("what they are", x.rights(0), rights & 7);
            Check.same("to read", x.read(0, 1), (rights & 4) != 0 ? 127 : -2);
            Check.same("to write", x.write(0, 1, 0), (rights & 2) != 0 ? 0 : -2);
        }
        for (int rights = 0; rights < 8; rights++) {
            ImageLoader x = two(0, 4, 512, 600).word(108, rights + 8).on(9);
            Check.same("the second one's", x.load(0), 0);
            for (int page = 2; page <= 4; page++) {
                Check.same("rights of page " + page, x.rights(page), rights);
            }
            Check.same("the first one's", x.rights(0), 7);
        }
    }

    private static void pagesLaid() {
        Check.sentence("TO LAY an image: all pages of the held bytes of its segments are mapped");
        int[][] fromAndHeld = {{256, 1}, {256, 256}, {256, 257}, {511, 1}, {511, 2}, {511, 257}, {511, 258}, {300, 468}, {300, 469}};
        for (int[] row : fromAndHeld) {
            int first = row[0] / 256 + 4;
            int last = (row[0] + row[1] - 1) / 256 + 4;
            ImageLoader x = one(0, row[0], 1, row[1], 5, 0).on(9);
            Check.same(row[1] + " from " + row[0] + " on", x.load(1024), 0);
            Check.same("pages told", x.told(2), last - first + 1);
            Check.same("pages counted", x.count(0), last - first + 1);
            for (int page = 0; page < 64; page++) {
                Check.same("page " + page, x.rights(page), page >= first && page <= last ? 5 : NONE);
            }
        }
    }

    /** Segments of images before are not its own. */
    private static void pagesOfOthers() {
        Check.sentence("of the held bytes of its segments");
        ImageLoader x = Twin.used(64, one(0, 0, 4, 4, 7, 0)).made();
        x.unmap(0, 64);
        Check.same("one segment, behind an image of three", x.load(0), 0);
        Check.same("one page", x.count(0), 1);
        Check.same("told", x.told(2), 1);
        x.unmap(0, 64);
        two(0, 4, 512, 4).onto(x);
        Check.same("two segments", x.load(0), 0);
        Check.same("two pages", x.count(0), 2);
        Check.same("told", x.told(2), 2);
    }

    private static void bytesLaid() {
        Check.sentence("they have 0s, but where filed bytes, from OFFSET on, come to the ADDRESS and the BASE");
        int[][] fromAndFiled = {{0, 0}, {0, 1}, {0, 8}, {255, 1}, {255, 2}, {252, 8}, {511, 8}, {400, 0}};
        for (int[] row : fromAndFiled) {
            ImageLoader x = one(84, row[0], row[1], 512, 7, 0).on(9);
            dirty(x);
            Check.same(row[1] + " at " + row[0], x.load(1024), 0);
            int sum = 7;
            int end = (row[0] + 511) / 256 * 256 + 256;
            for (int a = row[0] / 256 * 256; a < end; a++) {
                boolean filed = a >= row[0] && a < row[0] + row[1];
                sum = 31 * sum + (filed ? 0x11 + a - row[0] : 0);
            }
            Check.same("their bytes", x.sum(4 + row[0] / 256, (end - row[0] / 256 * 256) / 256), sum);
        }
    }

    /** Fills pages 4 to 7 and takes them away, so that what was there must be cleared. */
    private static void dirty(ImageLoader x) {
        x.load(1024);
        for (int a = 1024; a < 2048; a += 4) {
            x.write(a, 4, -1);
        }
        x.unmap(0, 64);
    }

    private static void nothingHeld() {
        Check.sentence("(A segment without held bytes maps nothing.)");
        long[] addresses = {0, 1, 255, 256, 768, 10240, 16383, 16384, HIGH, ALL};
        for (long address : addresses) {
            ImageLoader x = Twin.used(5, two(0, 1, address, 0)).made();
            Check.same("at " + address, x.load(0), 0);
            Check.same("pages", x.count(0), 5);
            Check.same("pages told", x.told(2), 1);
            ImageLoader y = two(address, 0, 0, 1).word(24, 0).on(1);
            Check.same("the first one at " + address, y.load(0), 0);
            Check.same("pages", y.count(0), 1);
        }
    }
}
