/** The edges of promises 10 to 17 and of the space, a sentence of the document each. */
public final class SpaceEdgesTest {
    private static final int BAD = ImageLoader.BAD;
    private static final int NONE = ImageLoader.NONE;
    private static final int REFUSED = ImageLoader.REFUSED;
    private static final int LEAST = Integer.MIN_VALUE;
    private static final int GREATEST = Integer.MAX_VALUE;
    private static final int[] NO_PAGES = {LEAST, LEAST + 1, -256, -64, -2, -1, 64, 65, 128, 256, GREATEST - 1, GREATEST};
    private static final int[] NO_SIZES = {LEAST, -4, -2, -1, 0, 3, 5, 6, 7, 8, 16, GREATEST};

    public static void main(String[] args) {
        pagesOfTheSpace();
        rightsOfPages();
        notMappedAtFirst();
        framesAtATime();
        readSizes();
        readNowhere();
        readWithoutRight();
        readMultiples();
        readOrder();
        writeSizes();
        writeRefused();
        writeMultiples();
        fetchWords();
        protectRights();
        protectBad();
        protectRefused();
        unmapPages();
        unmapBad();
        rightsOf();
        rightsBad();
        counts();
        countBad();
        sumOfPages();
        sumOfNone();
        sumBad();
        Check.end();
    }

    /** All 64 pages, with all rights; address a has the byte a % 251 in its first and last page. */
    private static ImageLoader all() {
        ImageLoader x = TestImage.plain(16384).on(64);
        Check.same("all pages", x.load(0), 0);
        for (int i = 0; i < 64; i += 4) {
            x.write(i, 4, bytesAt(i));
            x.write(16320 + i, 4, bytesAt(16320 + i));
        }
        return x;
    }

    private static int bytesAt(int address) {
        int value = 0;
        for (int i = 3; i >= 0; i--) {
            value = value << 8 | (address + i) % 251;
        }
        return value;
    }

    /** Pages 40 (rights 7), 41 (3), 42 (0), 63 (6), and an image on the tape. */
    private static final Twin.State USED = Twin.used(64, TestImage.plain(8));

    private static void pagesOfTheSpace() {
        Check.sentence("THE SPACE has 64 PAGES of 256 addresses, numbered from 0 on; address a lies in page a / 256.");
        for (int page = 0; page < 64; page++) {
            ImageLoader x = TestImage.plain(256).on(1);
            Check.same("page " + page, x.load(256 * page), 0);
            Check.same("its rights", x.rights(page), 7);
            Check.same("its first address", x.write(256 * page, 1, 9), 0);
            Check.same("its last address", x.write(256 * page + 255, 1, 9), 0);
            Check.same("one before", x.write(256 * page - 1, 1, 9), -1);
            Check.same("one behind", x.write(256 * page + 256, 1, 9), -1);
        }
        Check.same("no page before the first", new ImageLoader(1).rights(-1), BAD);
        Check.same("no page behind the last", new ImageLoader(1).rights(64), BAD);
    }

    private static void rightsOfPages() {
        Check.sentence("A page is MAPPED, with RIGHTS (4 to read + 2 to write + 1 to fetch)");
        for (int rights = 0; rights < 8; rights++) {
            ImageLoader x = USED.made();
            x.protect(40, rights);
            Check.same("read with " + rights, x.read(10240, 4), (rights & 4) != 0 ? 0x11223344 : -2);
            Check.same("fetch with " + rights, x.fetch(10240), (rights & 1) != 0 ? 0x11223344 : -2);
            Check.same("write with " + rights, x.write(10240, 4, 1), (rights & 2) != 0 ? 0 : -2);
        }
    }

    private static void notMappedAtFirst() {
        Check.sentence("or not (at first).");
        ImageLoader x = new ImageLoader(64);
        for (int page = 0; page < 64; page++) {
            Check.same("rights of " + page, x.rights(page), NONE);
            Check.same("read in " + page, x.read(256 * page, 1), -1);
            Check.same("fetch in " + page, x.fetch(256 * page), -1);
            Check.same("write in " + page, x.write(256 * page, 1, 1), -1);
            Check.same("protect " + page, x.protect(page, 7), REFUSED);
        }
        for (int what = 0; what <= 3; what++) {
            Check.same("count(" + what + ")", x.count(what), 0);
        }
    }

    private static void framesAtATime() {
        Check.sentence("There are as many FRAMES as told: no more pages may be mapped at a time.");
        for (int frames = 1; frames <= 64; frames += 7) {
            ImageLoader x = TestImage.plain(256).on(frames);
            for (int i = 0; i < frames; i++) {
                Check.same("page " + i + " of " + frames, x.load(256 * i), 0);
            }
            Check.same("all are mapped", x.count(0), frames);
            if (frames < 64) {
                Check.same("one more", x.load(16128), -25);
                x.cut(0);
                Check.same("nor a stack", x.stack(1), REFUSED);
            }
            Check.same("no more are mapped", x.count(0), frames);
            Check.same("one goes", x.unmap(0, 1), 1);
            TestImage.plain(256).onto(x);
            Check.same("another one comes", x.load(0), 0);
            Check.same("as many as before", x.count(0), frames);
        }
    }

    private static void readSizes() {
        Check.sentence("read: The number of n (1, 2, 4) bytes from an address on, without sign");
        ImageLoader x = USED.made();
        x.write(10240, 4, 0xF4F3F2F1);
        x.write(10492, 4, 0xF8F7F6F5);
        Check.same("1 byte", x.read(10240, 1), 0xF1);
        Check.same("2 bytes", x.read(10240, 2), 0xF2F1);
        Check.same("4 bytes", x.read(10240, 4), 0xF4F3F2F1L);
        Check.same("the page's last byte", x.read(10495, 1), 0xF8);
        Check.same("its last 2 bytes", x.read(10494, 2), 0xF8F7);
        Check.same("its last 4 bytes", x.read(10492, 4), 0xF8F7F6F5L);
        x.write(10240, 4, -1);
        Check.same("the greatest number", x.read(10240, 4), 0xFFFFFFFFL);
        for (int n : NO_SIZES) {
            Twin.same("read of " + n, USED, y -> y.read(10240, n), -4);
            Twin.same("read of " + n + " nowhere", USED, y -> y.read(-1, n), -4);
        }
        Twin.same("reading changes nothing", USED, y -> y.read(10240, 4), 0x11223344);
    }

    private static void readNowhere() {
        Check.sentence("read: -1: one of them is in a page that is not mapped (or no address)");
        int[] widths = {1, 2, 4};
        for (int n : widths) {
            ImageLoader x = all();
            Check.holds("the lowest address", x.read(0, n) >= 0);
            Check.holds("the highest address", x.read(16384 - n, n) >= 0);
            int[] outside = {-n, 16384, 16384 + n, -16384, 32768, 65536, LEAST, GREATEST - n + 1, 1 << 24, -(1 << 24)};
            for (int address : outside) {
                Check.same("read of " + n + " at " + address, x.read(address, n), -1);
            }
            Twin.same("below a page", USED, y -> y.read(10240 - n, n), -1);
            Twin.same("above a page", USED, y -> y.read(11008, n), -1);
            Check.same("at its beginning", USED.made().read(10240, n), 0x11223344 & (n == 4 ? -1 : (1 << 8 * n) - 1));
            Check.same("before the stack", USED.made().read(16128 - n, n), -1);
            Check.same("behind it", USED.made().read(16384, n), -1);
        }
    }

    private static void readWithoutRight() {
        Check.sentence("read: -2: in one without the right to read");
        int[] widths = {1, 2, 4};
        for (int n : widths) {
            for (int rights = 0; rights < 8; rights++) {
                ImageLoader x = USED.made();
                x.protect(40, rights);
                Check.same("with " + rights, x.read(10244 + 4, n), (rights & 4) != 0 ? 0 : -2);
            }
            Twin.same("the first of page 41", USED, y -> y.read(10496, n), -2);
            Twin.same("the last of page 42", USED, y -> y.read(11008 - n, n), -2);
            Check.same("the last of page 40", USED.made().read(10496 - n, n), 0);
        }
    }

    private static void readMultiples() {
        Check.sentence("read: -3: the address is no multiple of n");
        for (int address = 10240; address <= 10248; address++) {
            ImageLoader x = USED.made();
            x.write(10240, 4, 0);
            x.write(10244, 4, 0);
            Check.same("1 byte at " + address, x.read(address, 1), 0);
            Check.same("2 bytes at " + address, x.read(address, 2), address % 2 == 0 ? 0 : -3);
            Check.same("4 bytes at " + address, x.read(address, 4), address % 4 == 0 ? 0 : -3);
        }
        int[] halves = {-1, -3, 16383, 16385, LEAST + 1, GREATEST, 10239, 10241};
        for (int address : halves) {
            Twin.same("2 bytes at " + address, USED, x -> x.read(address, 2), -3);
            Twin.same("4 bytes at " + address, USED, x -> x.read(address, 4), -3);
        }
        int[] words = {-2, -6, 16382, 16386, LEAST + 2, GREATEST - 1, 10238, 10242};
        for (int address : words) {
            Twin.same("4 bytes at " + address, USED, x -> x.read(address, 4), -3);
        }
    }

    private static void readOrder() {
        Check.sentence("read: (asked first: BAD (here -4) n, then -3, -1, -2)");
        ImageLoader x = USED.made();
        Check.same("-4 before -3", x.read(10241, 3), -4);
        Check.same("-4 before -1", x.read(0, 3), -4);
        Check.same("-4 before -2", x.read(10496, 3), -4);
        Check.same("-3 before -1", x.read(2, 4), -3);
        Check.same("-3 before -1, no address", x.read(-2, 4), -3);
        Check.same("-3 before -2", x.read(10498, 4), -3);
        Check.same("-1", x.read(0, 4), -1);
        Check.same("-2", x.read(10496, 4), -2);
        x.unmap(41, 1);
        Check.same("-1 before -2", x.read(10496, 4), -1);
    }

    private static void writeSizes() {
        Check.sentence("write: The n (1, 2, 4) lowest bytes of v come to an address and those behind it: 0");
        int[] widths = {1, 2, 4};
        for (int n : widths) {
            ImageLoader x = USED.made();
            Check.same("write of " + n, x.write(10244, n, 0xF4F3F2F1), 0);
            for (int i = 0; i < 4; i++) {
                int before = 0x55667788 >>> (8 * i) & 255;
                Check.same("byte " + i, x.read(10244 + i, 1), i < n ? 0xF1 + i : before);
            }
            Check.same("below it", x.read(10240, 4), 0x11223344);
            Check.same("above it", x.read(10248, 4), 0);
            Check.same("the page's last ones", x.write(10496 - n, n, -1), 0);
            Check.same("its last byte", x.read(10495, 1), 255);
            Check.same("below them", x.read(10495 - n, 1), 0);
            Check.same("what they were in the next page", x.protect(41, 4), 3);
            Check.same("the next page's first", x.read(10496, 4), 0);
        }
        for (int n : NO_SIZES) {
            Twin.same("write of " + n, USED, y -> y.write(10240, n, -1), -4);
            Twin.same("write of " + n + " nowhere", USED, y -> y.write(-1, n, -1), -4);
        }
    }

    private static void writeRefused() {
        Check.sentence("write: likewise with -1, -2 (the right to write)");
        int[] widths = {1, 2, 4};
        for (int n : widths) {
            int[] outside = {-n, 16384, -16384, 65536, LEAST, GREATEST - n + 1, 10240 - n, 11008, 0, 16128 - n};
            for (int address : outside) {
                Twin.same("write of " + n + " at " + address, USED, x -> x.write(address, n, -1), -1);
            }
            for (int rights = 0; rights < 8; rights++) {
                int given = rights;
                Twin.State state = () -> {
                    ImageLoader x = USED.made();
                    x.protect(40, given);
                    return x;
                };
                if ((rights & 2) == 0) {
                    Twin.same("with " + rights, state, x -> x.write(10244, n, -1), -2);
                } else {
                    Check.same("with " + rights, state.made().write(10244, n, -1), 0);
                }
            }
            Twin.same("the first of page 42", USED, x -> x.write(10752, n, -1), -2);
            Check.same("the last of page 41", USED.made().write(10752 - n, n, -1), 0);
            ImageLoader x = all();
            Check.same("the lowest address", x.write(0, n, 0), 0);
            Check.same("the highest address", x.write(16384 - n, n, 0), 0);
            int before = x.sum(0, 64);
            Check.same("one below", x.write(-n, n, -1), -1);
            Check.same("one above", x.write(16384, n, -1), -1);
            Check.same("all is as it was", x.sum(0, 64), before);
        }
    }

    private static void writeMultiples() {
        Check.sentence("write: -3, -4.");
        int[] odd = {10241, 10243, 10495, 1, -1, 16385, 10497, LEAST + 1, GREATEST};
        for (int address : odd) {
            Twin.same("2 bytes at " + address, USED, x -> x.write(address, 2, -1), -3);
            Twin.same("4 bytes at " + address, USED, x -> x.write(address, 4, -1), -3);
        }
        int[] even = {10242, 10494, 2, -2, 16382, 16386, 10754, LEAST + 2, GREATEST - 1};
        for (int address : even) {
            Twin.same("4 bytes at " + address, USED, x -> x.write(address, 4, -1), -3);
        }
        Twin.same("-4 before -3", USED, x -> x.write(10241, 3, -1), -4);
        Twin.same("-4 before -1", USED, x -> x.write(0, 3, -1), -4);
        Twin.same("-4 before -2", USED, x -> x.write(10752, 3, -1), -4);
        Check.same("a byte anywhere", USED.made().write(10241, 1, -1), 0);
        Check.same("2 bytes at a multiple of 2", USED.made().write(10242, 2, -1), 0);
    }

    private static void fetchWords() {
        Check.sentence("fetch: as read() of 4, but with the right to fetch");
        ImageLoader x = all();
        Check.same("the lowest", x.fetch(0), bytesAt(0));
        Check.same("the highest", x.fetch(16380), bytesAt(16380) & 0xFFFFFFFFL);
        x.write(0, 4, -1);
        Check.same("without sign", x.fetch(0), 0xFFFFFFFFL);
        int[] outside = {-4, 16384, 16388, LEAST, GREATEST - 3, 65536};
        for (int address : outside) {
            Check.same("fetch at " + address, x.fetch(address), -1);
            Twin.same("fetch at " + address, USED, y -> y.fetch(address), -1);
        }
        Twin.same("below a page", USED, y -> y.fetch(10236), -1);
        Twin.same("above a page", USED, y -> y.fetch(11008), -1);
        int[] noMultiples = {10241, 10242, 10243, 1, 2, 3, -1, -2, -3, 16381, 16382, 16383, 16385, LEAST + 1, GREATEST};
        for (int address : noMultiples) {
            Twin.same("fetch at " + address, USED, y -> y.fetch(address), -3);
        }
        for (int rights = 0; rights < 8; rights++) {
            ImageLoader y = USED.made();
            y.protect(40, rights);
            Check.same("with " + rights, y.fetch(10240), (rights & 1) != 0 ? 0x11223344 : -2);
            Check.same("-3 before -2", y.fetch(10242), -3);
        }
        Twin.same("without the right", USED, y -> y.fetch(10752), -2);
        Twin.same("a stack is without it", USED, y -> y.fetch(16128), -2);
        Twin.same("with it, to write, not to read", USED, y -> y.fetch(10500), 0x81828384L);
    }

    private static void protectRights() {
        Check.sentence("protect: The rights of a page that is mapped become others: what they were.");
        for (int before = 0; before < 8; before++) {
            for (int rights = 0; rights < 8; rights++) {
                ImageLoader x = USED.made();
                Check.same("of page 40", x.protect(40, before), 7);
                Check.same("from " + before + " to " + rights, x.protect(40, rights), before);
                Check.same("now", x.rights(40), rights);
                Check.same("the next one's", x.rights(41), 3);
                Check.same("mapped", x.count(0), 4);
            }
        }
        ImageLoader x = all();
        Check.same("the first page", x.protect(0, 1), 7);
        Check.same("the last page", x.protect(63, 2), 7);
        Check.same("the first one's", x.rights(0), 1);
        Check.same("the last one's", x.rights(63), 2);
        Check.same("bytes stay", x.fetch(0), bytesAt(0));
    }

    private static void protectBad() {
        Check.sentence("protect: BAD: no such page, rights are not 0 .. 7");
        for (int page : NO_PAGES) {
            Twin.same("page " + page, USED, x -> x.protect(page, 5), BAD);
        }
        int[] wrong = {LEAST, -8, -1, 8, 9, 15, 256, GREATEST};
        for (int rights : wrong) {
            Twin.same("rights " + rights, USED, x -> x.protect(40, rights), BAD);
            Twin.same("rights " + rights + " of one that is not mapped", USED, x -> x.protect(39, rights), BAD);
            Twin.same("rights " + rights + " of no page", USED, x -> x.protect(64, rights), BAD);
        }
        Check.same("rights 0", USED.made().protect(40, 0), 7);
        Check.same("rights 7", USED.made().protect(42, 7), 0);
    }

    private static void protectRefused() {
        Check.sentence("protect: REFUSED: it is not mapped");
        int[] pages = {0, 1, 39, 43, 62};
        for (int page : pages) {
            for (int rights = 0; rights < 8; rights += 7) {
                int given = rights;
                Twin.same("page " + page, USED, x -> x.protect(page, given), REFUSED);
            }
        }
        Check.same("the first that is", USED.made().protect(40, 5), 7);
        Check.same("the last that is", USED.made().protect(42, 5), 0);
        Twin.State gone = () -> {
            ImageLoader x = USED.made();
            x.unmap(41, 1);
            return x;
        };
        Twin.same("it is mapped no more", gone, x -> x.protect(41, 5), REFUSED);
        Twin.same("page 63 of a fresh one", Twin.fresh(64), x -> x.protect(63, 5), REFUSED);
    }

    private static void unmapPages() {
        Check.sentence("unmap: n pages from one on are mapped no more: how many were.");
        int[][] pageAndN = {{0, 1}, {0, 40}, {0, 41}, {0, 64}, {39, 1}, {39, 2}, {40, 1}, {40, 3}, {40, 4}, {41, 1}, {42, 1}, {42, 2},
            {42, 22}, {43, 20}, {43, 21}, {62, 1}, {62, 2}, {63, 1}, {1, 63}};
        for (int[] row : pageAndN) {
            ImageLoader x = USED.made();
            int went = 0;
            for (int page = 0; page < 64; page++) {
                boolean was = page >= 40 && page <= 42 || page == 63;
                went += was && page >= row[0] && page < row[0] + row[1] ? 1 : 0;
            }
            Check.same("unmap(" + row[0] + ", " + row[1] + ")", x.unmap(row[0], row[1]), went);
            Check.same("how many are left", x.count(0), 4 - went);
            int[] rights = {7, 3, 0};
            for (int page = 39; page <= 43; page++) {
                boolean stays = page >= 40 && page <= 42 && (page < row[0] || page >= row[0] + row[1]);
                Check.same("page " + page, x.rights(page), stays ? rights[page - 40] : NONE);
            }
            Check.same("again", x.unmap(row[0], row[1]), 0);
        }
        Twin.same("none of them was", USED, x -> x.unmap(0, 40), 0);
        Twin.same("none of them was", USED, x -> x.unmap(43, 20), 0);
        Check.same("all of 64", all().unmap(0, 64), 64);
    }

    private static void unmapBad() {
        Check.sentence("unmap: BAD: n is below 1, or one of them is none");
        int[] below = {LEAST, LEAST + 1, -64, -1, 0};
        for (int n : below) {
            Twin.same("n is " + n, USED, x -> x.unmap(40, n), BAD);
            Twin.same("n is " + n + " from 0 on", USED, x -> x.unmap(0, n), BAD);
            Twin.same("n is " + n + " from no page on", USED, x -> x.unmap(64, n), BAD);
        }
        for (int page : NO_PAGES) {
            Twin.same("from " + page + " on", USED, x -> x.unmap(page, 1), BAD);
            Twin.same("from " + page + " on 64", USED, x -> x.unmap(page, 64), BAD);
            Twin.same("from " + page + " on very many", USED, x -> x.unmap(page, GREATEST), BAD);
        }
        int[] pages = {0, 1, 40, 62, 63};
        for (int page : pages) {
            Check.holds("up to the last from " + page, USED.made().unmap(page, 64 - page) > 0);
            Twin.same("one more from " + page, USED, x -> x.unmap(page, 65 - page), BAD);
            Twin.same("very many from " + page, USED, x -> x.unmap(page, GREATEST), BAD);
            Twin.same("nearly as many from " + page, USED, x -> x.unmap(page, GREATEST - page + 1), BAD);
        }
        Twin.same("from -1 on 65", USED, x -> x.unmap(-1, 65), BAD);
        Twin.same("from -1 on 42", USED, x -> x.unmap(-1, 42), BAD);
    }

    private static void rightsOf() {
        Check.sentence("rights: Rights of a page; NONE: it is not mapped.");
        ImageLoader x = USED.made();
        for (int page = 0; page < 64; page++) {
            int due = page == 40 ? 7 : page == 41 ? 3 : page == 42 ? 0 : page == 63 ? 6 : NONE;
            Check.same("page " + page, x.rights(page), due);
        }
        Twin.same("it changes nothing", USED, y -> y.rights(42), 0);
        Twin.same("nor here", USED, y -> y.rights(43), NONE);
        x.unmap(40, 3);
        Check.same("mapped no more", x.rights(42), NONE);
    }

    private static void rightsBad() {
        Check.sentence("rights: BAD");
        for (int page : NO_PAGES) {
            Twin.same("page " + page, USED, x -> x.rights(page), BAD);
        }
        Check.same("the first page", all().rights(0), 7);
        Check.same("the last page", all().rights(63), 7);
    }

    private static void counts() {
        Check.sentence("count: How many pages are mapped (what = 0), with the right to fetch (1), to write (2), to read (3); "
            + "bytes of the tape (4); images that were loaded (5); frames in all (6).");
        counted(new ImageLoader(64), 0, 0, 0, 0, 0, 0, 64);
        counted(new ImageLoader(1), 0, 0, 0, 0, 0, 0, 1);
        ImageLoader x = USED.made();
        counted(x, 4, 2, 3, 2, 92, 1, 64);
        x.protect(40, 0);
        counted(x, 4, 1, 2, 1, 92, 1, 64);
        x.protect(42, 1);
        counted(x, 4, 2, 2, 1, 92, 1, 64);
        x.load(10240);
        counted(x, 4, 2, 2, 1, 92, 1, 64);
        x.load(1);
        counted(x, 4, 2, 2, 1, 92, 1, 64);
        x.load(0);
        counted(x, 5, 3, 3, 2, 92, 2, 64);
        x.unmap(0, 64);
        counted(x, 0, 0, 0, 0, 92, 2, 64);
        x.load(16128);
        counted(x, 1, 1, 1, 1, 92, 3, 64);
        x.zeros(808);
        counted(x, 1, 1, 1, 1, 900, 3, 64);
        counted(all(), 64, 64, 64, 64, 92, 1, 64);
    }

    private static void counted(ImageLoader x, int... due) {
        for (int what = 0; what < due.length; what++) {
            Check.same("count(" + what + ")", x.count(what), due[what]);
        }
    }

    private static void countBad() {
        Check.sentence("count: BAD");
        int[] bad = {LEAST, -2, -1, 7, 8, 64, GREATEST};
        for (int what : bad) {
            Twin.same("count(" + what + ")", USED, x -> x.count(what), BAD);
        }
        Twin.same("count(0) changes nothing", USED, x -> x.count(0), 4);
        Twin.same("count(6) changes nothing", USED, x -> x.count(6), 64);
    }

    private static int on(int s, int value, int times) {
        int sum = s;
        for (int i = 0; i < times; i++) {
            sum = 31 * sum + value;
        }
        return sum;
    }

    private static void sumOfPages() {
        Check.sentence("sum: s at first 7, for each address of them in turn s becomes 31 s and its byte, "
            + "or 31 s + 1000 if its page is not mapped (rights don't matter; 32 bits that run over)");
        int none = on(7, 1000, 256);
        ImageLoader fresh = new ImageLoader(64);
        Check.same("the first page", fresh.sum(0, 1), none);
        Check.same("the last page", fresh.sum(63, 1), none);
        Check.same("two pages", fresh.sum(62, 2), on(none, 1000, 256));
        Check.same("all pages", fresh.sum(0, 64), on(7, 1000, 16384));
        ImageLoader x = USED.made();
        x.write(10240, 4, 0);
        x.write(10244, 4, 0);
        x.write(10500, 4, 0);
        x.write(10240, 1, 1);
        x.write(10495, 1, 255);
        x.write(10751, 1, 128);
        int due = on(on(on(7, 1, 1), 0, 254), 255, 1);
        Check.same("page 40", x.sum(40, 1), due);
        due = on(on(due, 0, 255), 128, 1);
        Check.same("pages 40 and 41", x.sum(40, 2), due);
        due = on(on(due, 0, 256), 1000, 256);
        Check.same("pages 40 to 43", x.sum(40, 4), due);
        for (int rights = 0; rights < 8; rights++) {
            x.protect(40, rights);
            x.protect(41, 7 - rights);
            Check.same("rights don't matter", x.sum(40, 4), due);
        }
        x.unmap(40, 1);
        Check.same("mapped no more", x.sum(40, 1), none);
        Twin.same("it changes nothing", USED, y -> y.sum(43, 1), none);
    }

    private static void sumOfNone() {
        Check.sentence("sum: n of them: s at first 7");
        for (int page = 0; page < 64; page++) {
            Check.same("none from " + page + " on", USED.made().sum(page, 0), 7);
        }
        // Of no pages none can be missing, so it does not matter where they would begin.
        for (int page : NO_PAGES) {
            Twin.same("none from " + page + " on", USED, x -> x.sum(page, 0), 7);
        }
    }

    private static void sumBad() {
        Check.sentence("sum: 0 if one of them is none, or n below 0");
        int[] below = {LEAST, LEAST + 1, -64, -2, -1};
        for (int n : below) {
            Twin.same("n is " + n, USED, x -> x.sum(40, n), 0);
            Twin.same("n is " + n + " from 0 on", USED, x -> x.sum(0, n), 0);
            Twin.same("n is " + n + " from no page on", USED, x -> x.sum(64, n), 0);
        }
        for (int page : NO_PAGES) {
            Twin.same("from " + page + " on", USED, x -> x.sum(page, 1), 0);
            Twin.same("from " + page + " on 64", USED, x -> x.sum(page, 64), 0);
            Twin.same("from " + page + " on very many", USED, x -> x.sum(page, GREATEST), 0);
        }
        int[] pages = {0, 1, 40, 62, 63};
        for (int page : pages) {
            Check.holds("up to the last from " + page, USED.made().sum(page, 64 - page) != 0);
            Twin.same("one more from " + page, USED, x -> x.sum(page, 65 - page), 0);
            Twin.same("very many from " + page, USED, x -> x.sum(page, GREATEST), 0);
            Twin.same("nearly as many from " + page, USED, x -> x.sum(page, GREATEST - page + 1), 0);
        }
    }
}
