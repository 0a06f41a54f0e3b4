/** Promises 10 to 17: read, write, fetch, protect, unmap, rights, count, sum. */
public final class SpaceTest {
    private static final int[] ENDS = {Integer.MIN_VALUE, Integer.MIN_VALUE + 1, -256, -1, 64, 65, 256, Integer.MAX_VALUE - 1, Integer.MAX_VALUE};

    public static void main(String[] args) {
        readAndFetch();
        write();
        access();
        edges();
        protect();
        unmap();
        count();
        sum();
        Check.end();
    }

    /** Pages 4 and 5 with all rights. */
    private static ImageLoader twoPages() {
        ImageLoader x = TestImage.plain(512).on(10);
        Check.same("two pages", x.load(1024), 0);
        return x;
    }

    private static void readAndFetch() {
        ImageLoader x = twoPages();
        x.write(1028, 4, 0x84838281);
        Check.same("a byte", x.read(1028, 1), 0x81);
        Check.same("an odd byte", x.read(1031, 1), 0x84);
        Check.same("a half", x.read(1028, 2), 0x8281);
        Check.same("the next half", x.read(1030, 2), 0x8483);
        Check.same("a word has no sign", x.read(1028, 4), 0x84838281L);
        Check.same("to be fetched", x.fetch(1028), 0x84838281L);
        x.write(1032, 4, -1);
        x.write(1024, 4, -1);
        Check.same("a word among others", x.read(1028, 4), 0x84838281L);
        Check.same("to be fetched among others", x.fetch(1028), 0x84838281L);
        Check.same("a half among others", x.read(1028, 2), 0x8281);
        int[] sizes = {-4, -1, 0, 3, 5, 8, Integer.MIN_VALUE, Integer.MAX_VALUE};
        for (int n : sizes) {
            Check.same("read of " + n, x.read(1028, n), -4);
            Check.same("read of " + n + " nowhere", x.read(-1, n), -4);
            Check.same("write of " + n, x.write(1028, n, 0), -4);
            Check.same("write of " + n + " nowhere", x.write(-1, n, 0), -4);
        }
        Check.same("nothing was written", x.read(1028, 4), 0x84838281L);
    }

    private static void write() {
        ImageLoader x = twoPages();
        Check.same("a word", x.write(1280, 4, -1), 0);
        Check.same("a half", x.write(1282, 2, 0x12345678), 0);
        Check.same("it", x.read(1280, 4), 0x5678FFFFL);
        Check.same("a byte", x.write(1281, 1, 0x12345678), 0);
        Check.same("it", x.read(1280, 4), 0x567878FFL);
        Check.same("the highest byte", x.write(1535, 1, 0x180), 0);
        Check.same("it", x.read(1535, 1), 0x80);
        Check.same("below it", x.read(1534, 1), 0);
        Check.same("above it", x.write(1536, 1, 1), -1);
    }

    /** What is asked first: the size, the multiple, the page, the right. */
    private static void access() {
        for (int rights = 0; rights < 8; rights++) {
            ImageLoader x = twoPages();
            x.write(1284, 4, 77);
            x.protect(5, rights);
            boolean read = (rights & 4) != 0;
            boolean write = (rights & 2) != 0;
            boolean fetch = (rights & 1) != 0;
            Check.same("read with " + rights, x.read(1284, 4), read ? 77 : -2);
            Check.same("fetch with " + rights, x.fetch(1284), fetch ? 77 : -2);
            Check.same("write with " + rights, x.write(1284, 4, 78), write ? 0 : -2);
            Check.same("multiple before right", x.read(1285, 2), -3);
            Check.same("multiple before right", x.read(1286, 4), -3);
            Check.same("multiple before right", x.fetch(1286), -3);
            Check.same("multiple before right", x.write(1286, 4, 1), -3);
            Check.same("size before all", x.read(1286, 3), -4);
            x.protect(5, 4);
            Check.same("what was written", x.read(1284, 4), write ? 78 : 77);
            x.unmap(5, 1);
            Check.same("read nowhere", x.read(1284, 4), -1);
            Check.same("fetch nowhere", x.fetch(1284), -1);
            Check.same("write nowhere", x.write(1284, 4, 78), -1);
            Check.same("multiple before page", x.read(1286, 4), -3);
            Check.same("multiple before page", x.fetch(1285), -3);
            Check.same("multiple before page", x.write(1287, 2, 4), -3);
        }
    }

    private static void edges() {
        ImageLoader x = TestImage.plain(16384).on(64);
        Check.same("all pages", x.load(0), 0);
        x.write(0, 4, 0x01020304);
        x.write(16380, 4, 0x05060708);
        Check.same("the first word", x.read(0, 4), 0x01020304L);
        Check.same("the last word", x.read(16380, 4), 0x05060708L);
        Check.same("the last byte", x.read(16383, 1), 5);
        int[] words = {16384, 16388, -4, -16384, Integer.MIN_VALUE, Integer.MAX_VALUE - 3, 65536, 16777216};
        for (int address : words) {
            for (int n = 1; n <= 4; n *= 2) {
                Check.same("read at " + address, x.read(address, n), -1);
                Check.same("write at " + address, x.write(address, n, 9), -1);
            }
            Check.same("fetch at " + address, x.fetch(address), -1);
        }
        int[] odd = {16385, -1, -3, -2, 16382, Integer.MAX_VALUE, Integer.MIN_VALUE + 1};
        for (int address : odd) {
            Check.same("read at " + address, x.read(address, 4), -3);
            Check.same("write at " + address, x.write(address, 4, 9), -3);
            Check.same("fetch at " + address, x.fetch(address), -3);
        }
        Check.same("a byte below", x.read(-1, 1), -1);
        Check.same("a half below", x.read(-2, 2), -1);
        Check.same("a byte above", x.read(16385, 1), -1);
        Check.same("nothing was written", x.read(0, 4), 0x01020304L);
    }

    private static void protect() {
        ImageLoader x = twoPages();
        int before = 7;
        for (int rights = 0; rights < 8; rights++) {
            Check.same("what they were", x.protect(4, rights), before);
            Check.same("what they are", x.rights(4), rights);
            Check.same("the other page", x.rights(5), 7);
            before = rights;
        }
        int[] wrong = {-1, 8, 15, Integer.MIN_VALUE, Integer.MAX_VALUE};
        for (int rights : wrong) {
            Check.same("rights " + rights, x.protect(4, rights), ImageLoader.BAD);
            Check.same("rights " + rights + " of no page", x.protect(3, rights), ImageLoader.BAD);
        }
        for (int page : ENDS) {
            Check.same("page " + page, x.protect(page, 5), ImageLoader.BAD);
            Check.same("rights of page " + page, x.rights(page), ImageLoader.BAD);
        }
        Check.same("they stay", x.rights(4), 7);
        Check.same("not mapped", x.protect(3, 5), ImageLoader.REFUSED);
        Check.same("not mapped", x.protect(0, 5), ImageLoader.REFUSED);
        Check.same("not mapped", x.protect(63, 5), ImageLoader.REFUSED);
        Check.same("nor now", x.rights(3), ImageLoader.NONE);
        Check.same("two pages", x.count(0), 2);
        Check.same("no rights", x.protect(4, 0), 7);
        Check.same("mapped all the same", x.rights(4), 0);
        Check.same("mapped all the same", x.count(0), 2);
        Check.same("and unmapped", x.unmap(4, 1), 1);
    }

    private static void unmap() {
        ImageLoader x = twoPages();
        Check.same("n is 0", x.unmap(4, 0), ImageLoader.BAD);
        Check.same("n is -1", x.unmap(4, -1), ImageLoader.BAD);
        Check.same("n is the least", x.unmap(4, Integer.MIN_VALUE), ImageLoader.BAD);
        Check.same("n is the greatest", x.unmap(4, Integer.MAX_VALUE), ImageLoader.BAD);
        Check.same("from 63 on two", x.unmap(63, 2), ImageLoader.BAD);
        Check.same("from 4 on 61", x.unmap(4, 61), ImageLoader.BAD);
        Check.same("from -1 on", x.unmap(-1, 8), ImageLoader.BAD);
        Check.same("from 0 on 65", x.unmap(0, 65), ImageLoader.BAD);
        for (int page : ENDS) {
            Check.same("page " + page, x.unmap(page, 1), ImageLoader.BAD);
            Check.same("pages from " + page, x.unmap(page, Integer.MAX_VALUE), ImageLoader.BAD);
        }
        Check.same("they stay", x.count(0), 2);
        Check.same("none there", x.unmap(6, 58), 0);
        Check.same("none below", x.unmap(0, 4), 0);
        Check.same("one of them", x.unmap(5, 59), 1);
        Check.same("the other stays", x.rights(4), 7);
        Check.same("it went", x.rights(5), ImageLoader.NONE);
        Check.same("all", x.unmap(0, 64), 1);
        Check.same("none", x.unmap(0, 64), 0);
        Check.same("frames are free again", x.load(0), 0);
        x.cut(0);
        Check.same("all of them", x.stack(8), 16368);
    }

    private static void count() {
        ImageLoader x = twoPages();
        x.cut(0);
        x.stack(1);
        x.zeros(17);
        x.protect(4, 5);
        int[] due = {3, 2, 2, 3, 17, 1, 10};
        for (int what = 0; what < due.length; what++) {
            Check.same("count(" + what + ")", x.count(what), due[what]);
        }
        x.protect(4, 0);
        x.protect(5, 1);
        x.protect(63, 2);
        int[] later = {3, 1, 1, 0, 17, 1, 10};
        for (int what = 0; what < later.length; what++) {
            Check.same("count(" + what + ") later", x.count(what), later[what]);
        }
        x.unmap(0, 64);
        int[] last = {0, 0, 0, 0, 17, 1, 10};
        for (int what = 0; what < last.length; what++) {
            Check.same("count(" + what + ") at last", x.count(what), last[what]);
        }
        TestImage.plain(256).onto(x);
        Check.same("page 0", x.load(0), 0);
        for (int what = 0; what < 4; what++) {
            Check.same("count(" + what + ") of page 0", x.count(what), 1);
        }
        int[] bad = {-1, 7, 8, Integer.MIN_VALUE, Integer.MAX_VALUE};
        for (int what : bad) {
            Check.same("count(" + what + ")", x.count(what), ImageLoader.BAD);
        }
    }

    private static void sum() {
        ImageLoader x = twoPages();
        x.write(1024, 4, 0);
        x.write(1028, 4, 0);
        x.write(1025, 1, 255);
        x.write(1535, 1, 128);
        int s = 7;
        for (int a = 768; a < 1792; a++) {
            int due = a < 1024 || a >= 1536 ? 1000 : 0;
            due = a == 1025 ? 255 : a == 1535 ? 128 : due;
            s = 31 * s + due;
        }
        Check.same("four pages", x.sum(3, 4), s);
        x.protect(4, 0);
        x.protect(5, 2);
        Check.same("rights don't matter", x.sum(3, 4), s);
        int none = 7;
        for (int i = 0; i < 16384; i++) {
            none = 31 * none + 1000;
        }
        x.unmap(4, 2);
        Check.same("all pages", x.sum(0, 64), none);
        for (int page = 0; page < 64; page += 9) {
            Check.same("no pages", x.sum(page, 0), 7);
        }
        Check.same("no pages behind all", x.sum(64, 0), 7);
        Check.same("n is -1", x.sum(0, -1), 0);
        Check.same("n is the least", x.sum(0, Integer.MIN_VALUE), 0);
        Check.same("n is the greatest", x.sum(0, Integer.MAX_VALUE), 0);
        Check.same("from 0 on 65", x.sum(0, 65), 0);
        Check.same("from 63 on two", x.sum(63, 2), 0);
        Check.same("from 64 on one", x.sum(64, 1), 0);
        Check.same("from -1 on", x.sum(-1, 2), 0);
        Check.same("far off", x.sum(Integer.MAX_VALUE, 2), 0);
        Check.same("far below", x.sum(Integer.MIN_VALUE, 2), 0);
        Check.same("far off and many", x.sum(Integer.MAX_VALUE, Integer.MAX_VALUE), 0);
        Check.holds("the last page", x.sum(63, 1) == x.sum(0, 1) && x.sum(63, 1) != 0);
    }
}
