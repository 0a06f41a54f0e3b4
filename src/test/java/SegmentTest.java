/** Promise 7, faults 9 to 18, and how segments are laid. */
public final class SegmentTest {
    public static void main(String[] args) {
        filedAndHeld();
        onTheTape();
        align();
        addresses();
        pagesTaken();
        frames();
        dynamicHeads();
        noSegment();
        entry();
        order();
        laying();
        behindTheTable();
        nothingIsKept();
        Check.end();
    }

    private static TestImage one(long offset, long address, long filed, long held, long rights, long align) {
        return new TestImage(3, address, 1, 92).head(0, 1, offset, address, filed, held, rights, align);
    }

    private static void filedAndHeld() {
        one(0, 0, 5, 4, 7, 0).faulty("held 4, filed 5", 0, 9, 72);
        one(0, 0, 1, 0, 7, 0).faulty("held 0, filed 1", 0, 9, 72);
        one(0, 0, 0xFFFFFFFFL, 4, 7, 0).faulty("filed has no sign", 0, 9, 72);
        one(0, 0, 4, 0xFFFFFFFFL, 7, 0).faulty("held has no sign", 0, 13, 60);
        one(0, 0, 4, 4, 7, 0).sound("held as filed", 0, 0);
        one(0, 0, 0, 4, 7, 0).sound("nothing filed", 0, 0);
    }

    private static void onTheTape() {
        one(84, 0, 8, 8, 7, 0).sound("up to the end", 0, 0);
        one(85, 0, 8, 8, 7, 0).faulty("one beyond", 0, 10, 56);
        one(0, 0, 93, 93, 7, 0).faulty("too many", 0, 10, 56);
        one(0, 0, 92, 92, 7, 0).sound("the whole tape", 0, 0);
        one(92, 0, 0, 8, 7, 0).sound("nothing from the end on", 0, 0);
        one(93, 0, 0, 8, 7, 0).faulty("nothing from beyond the end on", 0, 10, 56);
        one(0xFFFFFFFFL, 0, 8, 8, 7, 0).faulty("offset has no sign", 0, 10, 56);
        one(0xFFFFFFF8L, 0, 8, 8, 7, 0).faulty("the sum doesn't run over", 0, 10, 56);
        one(0x80000000L, 0, 0x80000000L, 0x80000000L, 7, 0).faulty("nor that of halves", 0, 10, 56);
    }

    private static void align() {
        for (int power = 0; power <= 12; power++) {
            long align = 1L << power;
            one(0, 0, 4, 4, 7, align).sound("align " + align, 0, 0);
            one(3 % align, 3 % align + (align < 2048 ? align : 0), 4, 4, 7, align).sound("rests as by " + align, 0, 0);
        }
        one(0, 0, 4, 4, 7, 0).sound("align 0", 0, 0);
        one(3, 1, 4, 4, 7, 0).sound("align 0 asks for nothing", 0, 0);
        one(3, 0, 4, 4, 7, 1).sound("align 1 asks for nothing", 0, 0);
        long[] wrong = {3, 5, 6, 7, 9, 12, 4095, 4097, 8192, 0x10000L, 0x80000000L, 0xFFFFFFFFL};
        for (long align : wrong) {
            one(0, 0, 4, 4, 7, align).faulty("align " + align, 0, 11, 80);
        }
        one(1, 0, 4, 4, 7, 2).faulty("rests by 2", 0, 12, 60);
        one(4, 256, 4, 4, 7, 256).faulty("rests by 256", 0, 12, 60);
        one(4, 260, 4, 4, 7, 256).sound("the same rest by 256", 0, 0);
        one(0, 2048, 4, 4, 7, 4096).faulty("rests by 4096", 0, 12, 60);
        one(0, 2048, 4, 4, 7, 4096).faulty("the base doesn't mend it", 2048, 12, 60);
        one(0, 4096, 4, 4, 7, 4096).sound("the base doesn't break it", 256, 0);
        one(0, 0x80000004L, 4, 4, 7, 8).faulty("rests have no sign", 0, 12, 60);
        one(0, 0x80000000L, 4, 4, 7, 8).faulty("the rest is the same", 0, 13, 60);
    }

    private static void addresses() {
        one(0, 16380, 4, 4, 7, 0).sound("the highest addresses", 0, 0);
        one(0, 16380, 4, 5, 7, 0).faulty("one above", 0, 13, 60);
        one(0, 16384, 4, 4, 7, 0).faulty("behind all", 0, 13, 60);
        one(0, 0, 4, 16384, 7, 0).sound("all addresses", 0, 0);
        one(0, 0, 4, 16385, 7, 0).faulty("one too many", 0, 13, 60);
        one(0, 0, 4, 16384, 7, 0).faulty("with the base one too many", 256, 13, 60);
        one(0, 0, 4, 16128, 7, 0).sound("with the base all", 256, 0);
        one(0, 0xFFFFFC00L, 4, 4, 7, 0).faulty("the base doesn't run over", 1024, 13, 60);
        one(0, 0x7FFFFFFFL, 4, 4, 7, 0).faulty("far off", 0, 13, 60);
        one(0, 4, 4, 0xFFFFFFFFL, 7, 0).faulty("the sum doesn't run over", 0, 13, 60);
        TestImage image = one(0, 16380, 4, 5, 7, 0).half(16, 2);
        image.faulty("sort 2", 0, 13, 60);
        image.word(72, 4).sound("sort 2 has the base 0", 16128, 0);
    }

    private static TestImage two(long first, long firstHeld, long second, long secondHeld) {
        TestImage image = new TestImage(3, first, 2, 116);
        image.head(0, 1, 0, first, 0, firstHeld, 7, 0);
        return image.head(1, 1, 0, second, 0, secondHeld, 5, 0);
    }

    private static void pagesTaken() {
        two(0, 256, 256, 4).sound("pages side by side", 0, 0);
        two(0, 257, 256, 4).faulty("the second meets the first", 0, 14, 92);
        two(0, 100, 100, 4).faulty("the second meets the first", 0, 14, 92);
        two(0, 1, 5, 1).faulty("one byte each", 0, 14, 92);
        two(255, 1, 256, 1).sound("one byte each in two pages", 0, 0);
        two(256, 1, 255, 1).sound("one byte each in two pages", 0, 0);
        two(512, 4, 0, 512).sound("below the first", 0, 0);
        two(512, 4, 0, 513).faulty("the second meets the first", 0, 14, 92);
        two(1024, 512, 0, 4096).faulty("the second meets the first", 0, 14, 92);
        two(0, 4096, 1024, 4).faulty("the second meets the first", 0, 14, 92);
        two(0, 4096, 1024, 0).sound("one without held bytes has no page", 0, 0);
        ImageLoader x = two(0, 256, 1024, 600).on(64);
        Check.same("first", x.load(0), 0);
        Check.same("again", x.load(0), -24);
        Check.same("its place", x.told(0), 60);
        Check.same("the second one meets", x.load(1024), -24);
        Check.same("the first segment's place", x.told(0), 60);
        x.unmap(0, 1);
        Check.same("the second one alone meets", x.load(0), -24);
        Check.same("the second segment's place", x.told(0), 92);
        Check.same("pages stay", x.count(0), 3);
        x.unmap(4, 2);
        Check.same("the last page of three alone meets", x.load(0), -24);
        Check.same("the second segment's place", x.told(0), 92);
        Check.same("the page stays", x.count(0), 1);
        x.unmap(6, 1);
        Check.same("free again", x.load(0), 0);
        Check.same("two were loaded", x.count(5), 2);
    }

    private static void frames() {
        ImageLoader x = two(0, 512, 1024, 512).on(3);
        Check.same("four pages, three frames", x.load(0), -25);
        Check.same("the second one is too much", x.told(0), 104);
        Check.same("nothing is mapped", x.count(0), 0);
        x = two(0, 512, 1024, 512).on(1);
        Check.same("four pages, one frame", x.load(0), -25);
        Check.same("the first one is too much", x.told(0), 72);
        x = two(0, 512, 1024, 512).on(4);
        Check.same("four pages, four frames", x.load(0), 0);
        x = two(0, 512, 1024, 512).on(7);
        Check.same("four of seven", x.load(0), 0);
        Check.same("four of three", x.load(4096), -25);
        Check.same("the second one", x.told(0), 104);
        Check.same("four are mapped", x.count(0), 4);
        Check.same("what is mapped comes first", x.load(0), -24);
        x.unmap(5, 1);
        Check.same("four of four", x.load(4096), 0);
        Check.same("all are used", x.count(0), 7);
        x = two(250, 7, 1024, 257).on(3);
        Check.same("pages that are touched count", x.load(0), -25);
        x = two(250, 6, 1024, 256).on(2);
        Check.same("two pages", x.load(0), 0);
        Check.same("told(2)", x.told(2), 2);
    }

    private static TestImage withDynamic(long offset, long filed) {
        TestImage image = new TestImage(3, 0, 2, 148);
        image.head(0, 1, 0, 0, 4, 4, 7, 0);
        return image.head(1, 2, offset, 0xFFFFFFFFL, filed, 0, 0, 3);
    }

    private static void dynamicHeads() {
        withDynamic(116, 32).sound("held bytes, address and align mean nothing", 0, 0);
        withDynamic(117, 32).faulty("beyond the tape", 0, 10, 88);
        withDynamic(149, 0).faulty("nothing, beyond the tape", 0, 10, 88);
        withDynamic(148, 0).sound("nothing, at the end", 0, 0);
        withDynamic(0xFFFFFFF8L, 8).faulty("no running over", 0, 10, 88);
        for (int filed = 0; filed <= 32; filed++) {
            if (filed % 8 == 0) {
                withDynamic(116, filed).sound("filed " + filed, 0, 0);
            } else {
                withDynamic(116, filed).faulty("filed " + filed, 0, 16, 100);
            }
        }
        withDynamic(120, 31).faulty("10 comes before 16", 0, 10, 88);
        TestImage image = withDynamic(116, 31);
        image.head(0, 2, 116, 0, 31, 0, 0, 0).faulty("each of several", 0, 16, 68);
        image.head(0, 2, 116, 0, 32, 0, 0, 0).faulty("each of several", 0, 16, 100);
        image = withDynamic(116, 31);
        image.head(0, 1, 0, 0, 5, 4, 7, 0).faulty("heads are asked in turn", 0, 9, 72);
        image = new TestImage(3, 0, 2, 148);
        image.head(0, 2, 116, 0, 31, 0, 0, 0).head(1, 1, 0, 0, 5, 4, 7, 0);
        image.faulty("heads are asked in turn", 0, 16, 68);
    }

    private static void noSegment() {
        one(0, 0, 0, 0, 7, 0).faulty("no held bytes", 0, 17, 44);
        one(0, 0xFFFFFFFFL, 0, 0, 7, 0).faulty("no held bytes that are no address", 0, 17, 44);
        one(0, 0, 8, 8, 7, 0).word(52, 0).faulty("kind 0", 0, 17, 44);
        one(0, 0, 8, 8, 7, 0).word(52, 3).faulty("kind 3", 0, 17, 44);
        one(0, 0, 8, 8, 7, 0).word(52, 257).faulty("kind 257", 0, 17, 44);
        one(0, 0, 8, 8, 7, 0).word(52, 0x80000001L).faulty("kind with a high bit", 0, 17, 44);
        one(0, 0, 8, 8, 7, 0).word(52, 2).faulty("kind 2", 0, 17, 44);
        one(9000, 90000, 9, 8, 7, 3).word(52, 6).faulty("other kinds have no faults", 0, 17, 44);
        one(0, 0, 0, 0, 7, 3).faulty("one without held bytes is asked, too", 0, 11, 80);
        one(1, 0, 0, 0, 7, 2).faulty("and this", 0, 12, 60);
        two(0, 0, 0, 4).word(108, 5).sound("one of two has held bytes", 0, 0);
        two(0xFFFFFFFFL, 0, 0, 4).word(24, 0).sound("the other lies anywhere", 0, 0);
    }

    private static void entry() {
        for (int rights = 0; rights < 16; rights++) {
            TestImage image = one(0, 0, 4, 4, rights, 0);
            if ((rights & 1) == 1) {
                image.sound("rights " + rights, 0, 0);
            } else {
                image.faulty("rights " + rights, 0, 18, 24);
            }
        }
        one(0, 256, 4, 100, 1, 0).word(24, 255).faulty("below", 0, 18, 24);
        one(0, 256, 4, 100, 1, 0).word(24, 256).sound("the first", 0, 0);
        one(0, 256, 4, 100, 1, 0).word(24, 355).sound("the last", 0, 0);
        one(0, 256, 4, 100, 1, 0).word(24, 356).faulty("above", 0, 18, 24);
        one(0, 256, 4, 100, 1, 0).word(24, 0xFFFFFF00L).faulty("far off", 512, 18, 24);
        one(0, 0, 4, 100, 1, 0).word(24, 0xFFFFFF00L).faulty("no running over", 256, 18, 24);
        TestImage image = two(0, 4, 256, 4).word(76, 6);
        image.word(24, 3).faulty("of the wrong one of two", 0, 18, 24);
        image.word(24, 257).sound("of the right one of two", 0, 0);
        ImageLoader x = image.on(9);
        x.load(512);
        Check.same("entry with the base", x.told(1), 769);
        Check.same("the base", x.told(3), 512);
        x = image.half(16, 2).on(9);
        x.load(512);
        Check.same("entry of sort 2", x.told(1), 257);
    }

    /** Faults of one head are mended from the first on; the next one is told each time. */
    private static void order() {
        TestImage image = new TestImage(3, 9000, 2, 116);
        image.head(0, 1, 0, 0, 1, 256, 6, 0).head(1, 1, 200, 16383, 4, 3, 6, 3);
        ImageLoader x = TestImage.plain(16384 - 256).on(64);
        Check.same("all but one are mapped", x.load(256), 0);
        faultOn(x, image, 9, 104);
        faultOn(x, image.word(104, 4), 10, 88);
        faultOn(x, image.word(88, 0), 11, 112);
        faultOn(x, image.word(112, 2), 12, 92);
        faultOn(x, image.word(92, 16382), 13, 92);
        faultOn(x, image.word(92, 512), 14, 92);
        ImageLoader full = TestImage.plain(256).on(2);
        Check.same("one of two is mapped", full.load(4096), 0);
        faultOn(full, image, 15, 104);
        full.unmap(16, 1);
        faultOn(full, image.word(72, 0).word(68, 0).word(104, 0).word(100, 0), 17, 44);
        faultOn(full, image.word(72, 4), 18, 24);
        image.head(1, 2, 104, 0, 8, 0, 0, 0).words(104, 8, 13);
        faultOn(full, image, 18, 24);
        faultOn(full, image.word(24, 0).word(76, 1), 19, 84);
    }

    private static void faultOn(ImageLoader x, TestImage image, int fault, int place) {
        int before = x.sum(0, 64);
        image.onto(x);
        Check.same("order: load", x.load(0), -10 - fault);
        Check.same("order: told(0)", x.told(0), place);
        Check.same("order: all is as it was", x.sum(0, 64), before);
    }

    /** The pages are dirty from an image before, and must have 0s but for the filed bytes. */
    private static void laying() {
        ImageLoader x = TestImage.plain(1280).on(64);
        Check.same("what was before", x.load(1024), 0);
        for (int a = 1024; a < 2304; a += 4) {
            x.write(a, 4, -1);
        }
        Check.same("it goes", x.unmap(4, 5), 5);
        TestImage image = new TestImage(3, 800, 3, 240);
        image.head(0, 1, 150, 250, 20, 300, 0x7FFFFFFCL, 0);
        image.head(1, 1, 0, 0, 0, 0, 2, 0);
        image.head(2, 1, 160, 800, 80, 400, 0x85, 0);
        for (int i = 148; i < 240; i++) {
            image.put(i, i);
        }
        image.onto(x);
        Check.same("no relocations", x.load(1024), 0);
        Check.same("pages told", x.told(2), 5);
        Check.same("pages mapped", x.count(0), 5);
        int[] due = {-1, 4, 4, 4, 5, 5, -1};
        for (int i = 0; i < due.length; i++) {
            Check.same("rights of page " + (3 + i), x.rights(3 + i), due[i]);
        }
        Check.same("all bytes", x.sum(3, 7), dueSum());
        Check.same("the first filed byte", x.read(1024 + 250, 1), 150);
        Check.same("below it", x.read(1024 + 249, 1), 0);
        Check.same("the last filed byte", x.read(1024 + 879, 1), 239);
        Check.same("above it", x.read(1024 + 880, 1), 0);
    }

    private static void behindTheTable() {
        TestImage eight = new TestImage(3, 1792, 8, 308);
        for (int i = 0; i < 8; i++) {
            eight.head(i, 1, i, 256 * i, 1, 256, 7, 0);
        }
        ImageLoader all = eight.on(8);
        Check.same("eight segments", all.load(2048), 0);
        Check.same("eight pages", all.told(2), 8);
        Check.same("the eighth one's entry", all.told(1), 3840);
        Check.same("the fourth one's byte", all.read(2048 + 768, 1), 70);
        TestImage image = two(0, 256, 512, 256).half(44, 1);
        ImageLoader x = image.on(64);
        Check.same("one head alone", x.load(0), 0);
        Check.same("one page", x.count(0), 1);
        image.head(1, 1, 9000, 0, 9, 8, 7, 3).sound("a faulty one behind the table", 0, 0);
        image.head(1, 2, 9000, 0, 9, 8, 7, 3).sound("a faulty one behind the table", 0, 0);
    }

    /** The second image must not see the first one's second segment. */
    private static void nothingIsKept() {
        ImageLoader x = two(0, 256, 512, 256).on(64);
        Check.same("two segments", x.load(0), 0);
        x.unmap(0, 64);
        one(0, 0, 0, 256, 7, 0).onto(x);
        Check.same("one segment", x.load(0), 0);
        Check.same("one page", x.count(0), 1);
        Check.same("told", x.told(2), 1);
        x.unmap(0, 64);
        one(0, 0, 0, 256, 7, 0).word(24, 512).onto(x);
        Check.same("no entry there", x.load(0), -28);
        two(0, 256, 512, 256).onto(x);
        Check.same("two segments", x.load(0), 0);
        x.unmap(0, 1);
        one(0, 0, 0, 256, 7, 0).word(24, 512).onto(x);
        Check.same("no entry there", x.load(0), -28);
        Check.same("its place", x.told(0), 24);
        Check.same("one page", x.count(0), 1);
    }

    private static int dueSum() {
        int s = 7;
        for (int a = 768; a < 2560; a++) {
            int due = a < 1024 || a >= 2304 ? 1000 : 0;
            if (a >= 1274 && a < 1294) {
                due = a - 1274 + 150;
            }
            if (a >= 1824 && a < 1904) {
                due = a - 1824 + 160;
            }
            s = 31 * s + due;
        }
        return s;
    }
}
