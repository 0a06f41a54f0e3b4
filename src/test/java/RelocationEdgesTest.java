/** The edges of promise 7 from fault 19 to fault 23, a sentence of the document each. */
public final class RelocationEdgesTest {
    private static final long HIGH = 0x80000000L;
    private static final long ALL = 0xFFFFFFFFL;

    // The tape: three heads, the filed bytes of the first segment, the pairs.
    private static final int FILED = 148;
    private static final int PAIRS = FILED + 200;
    private static final int DYNAMIC_HEAD = 84;

    // Held by the first segment are 0 .. 299, by the second one 512 .. 1023.
    private static final int HELD = 300;
    private static final int SECOND = 512;
    private static final int SECOND_HELD = 512;

    // Where the relocations, the symbols and a word to be written are.
    private static final int TABLE = 0;
    private static final int SYMBOLS = 96;
    private static final int TARGET = 176;

    // Which of the pairs tells what.
    private static final int PLACE = 0;
    private static final int BYTES = 1;
    private static final int EACH = 2;
    private static final int SYMBOL_PLACE = 3;
    private static final int SYMBOL_EACH = 4;

    public static void main(String[] args) {
        lastHead();
        whatPairsTell();
        endOfPairs();
        severalPairs();
        notTold();
        otherPairs();
        multipleOfTwelve();
        eachIsTwelve();
        sixty();
        wordsOfARelocation();
        numberOfASymbol();
        tableHeld();
        targetHeld();
        heldByThisImage();
        sorts();
        sortZero();
        sortThree();
        sortOne();
        valueOfASymbol();
        symbolHeld();
        symbolSize();
        symbolWithoutPlace();
        runsOver();
        readLater();
        asItWas();
        Check.end();
    }

    /** Relocations of 0s, and five symbols, each of which has a place but symbol 0. */
    private static TestImage image(int count) {
        TestImage image = new TestImage(3, 0, 3, PAIRS + 72);
        image.head(0, 1, FILED, 0, 200, HELD, 7, 4).head(1, 2, PAIRS, 0, 72, 0, 0, 0);
        image.head(2, 1, 0, SECOND, 0, SECOND_HELD, 6, 0);
        for (int i = 0; i < 5; i++) {
            image.words(FILED + SYMBOLS + 16 * i, 9, 1000 * i + 7, 9, i == 0 ? 0 : 0x00010000L);
        }
        pair(image, PLACE, 7, TABLE);
        pair(image, BYTES, 8, 12L * count);
        pair(image, EACH, 9, 12);
        pair(image, SYMBOL_PLACE, 6, SYMBOLS);
        return pair(image, SYMBOL_EACH, 11, 16);
    }

    private static TestImage pair(TestImage image, int i, long key, long value) {
        return image.words(PAIRS + 8 * i, key, value);
    }

    private static TestImage relocation(TestImage image, int i, long where, long what, long more) {
        return image.words(FILED + TABLE + 12 * i, where, what, more);
    }

    private static void faulty(String what, TestImage image, int fault, int place) {
        Twin.faulty(what, Twin.used(64, image), 2048, fault, place);
        Twin.faulty(what, Twin.fresh(64, image), 0, fault, place);
    }

    private static void sound(String what, TestImage image, int relocations) {
        image.sound(what, 0, relocations);
        image.sound(what + ", with a base", 2048, relocations);
    }

    private static void written(String what, TestImage image, int base, int address, long due) {
        ImageLoader x = image.on(64);
        Check.holds(what + " is sound", x.load(base) >= 0);
        long got = 0;
        for (int i = 3; i >= 0; i--) {
            got = got << 8 | x.read(base + address + i, 1);
        }
        Check.same(what, got, due);
    }

    private static void lastHead() {
        Check.sentence("IF IT HAS A HEAD OF KIND 2 (of several, the last one counts, at t)");
        sound("one", image(3), 3);
        sound("none", image(3).word(DYNAMIC_HEAD, 4), 0);
        TestImage two = image(3).head(2, 2, PAIRS + 64, 0, 8, 0, 0, 0);
        sound("the last one tells nothing", pair(two, 8, 5, 5), 0);
        faulty("the last one is faulty", pair(two, 8, 8, 13), 19, 116);
        TestImage turned = pair(image(3), 8, 8, 13).head(2, 2, PAIRS, 0, 64, 0, 0, 0);
        sound("the first one tells what would be faulty", turned.word(88, PAIRS + 64).word(100, 8), 3);
        TestImage eight = new TestImage(3, 0, 8, 324).head(0, 1, 0, 0, 0, 720, 7, 0);
        for (int i = 1; i < 8; i++) {
            eight.head(i, 2, 308, 0, 0, 0, 0, 0);
        }
        eight.sound("seven that tell nothing", 0, 0);
        eight.words(308, 8, 13).word(52 + 32 * 7 + 16, 8);
        faulty("the last of seven", eight, 19, 52 + 32 * 7);
        eight.word(52 + 32 * 7 + 16, 0).word(52 + 32 * 6 + 16, 8).sound("the one before it", 0, 0);
    }

    private static void whatPairsTell() {
        Check.sentence("7 and the address of the RELOCATIONS, 8 and how many bytes these are, 9 and how many each, "
            + "6 and the address of the SYMBOLS, 11 and how many bytes each is");
        TestImage image = relocation(image(1), 0, TARGET, 0x101, 0);
        relocation(image, 1, TARGET + 4, 0x101, 5);
        written("one relocation", image, 0, TARGET + 4, 0);
        written("7: from the second one on", pair(image, PLACE, 7, 12), 0, TARGET + 4, 1012);
        written("6: one symbol further on", pair(image, SYMBOL_PLACE, 6, SYMBOLS + 16), 0, TARGET + 4, 2012);
        sound("8: two relocations", pair(pair(image, PLACE, 7, 0), BYTES, 8, 24), 2);
        faulty("9: each is 13", pair(image, EACH, 9, 13), 19, DYNAMIC_HEAD);
        faulty("11: each is 17", pair(pair(image, EACH, 9, 12), SYMBOL_EACH, 11, 17), 22, 0);
        TestImage turned = relocation(image(2), 0, TARGET, 0x101, 0);
        for (int i = 0; i < 5; i++) {
            pair(turned, i, keyOf(4 - i), valueOf(4 - i));
        }
        sound("in any order", turned, 2);
    }

    private static void wordsOfARelocation() {
        Check.sentence("at the address of the relocations, the BASE and 12 i: words where, what, more.");
        for (int i = 0; i < 7; i++) {
            TestImage image = image(7);
            relocation(image, i, SECOND + 4 * i, 3, 0x01020304);
            written("relocation " + i, image, 0, SECOND + 4 * i, 0x01020304);
            written("relocation " + i + " with the base", image, 512, SECOND + 4 * i, 0x01020304 + 512);
            faulty("where of " + i, relocation(image, i, HELD, 3, 0), 20, i);
            faulty("what of " + i, relocation(image, i, SECOND, 4, 0), 21, i);
        }
        ImageLoader all = sixtyRelocations().on(64);
        Check.same("all of 60", all.load(2048), 60);
        for (int i = 0; i < 60; i++) {
            Check.same("what " + i + " wrote", all.read(2048 + 1024 + 4 * i, 4), 2048 + 7 * i);
        }
        for (int i = 0; i < 60; i++) {
            faulty("where of " + i + " of 60", sixtyRelocations().word(140 + 12 * i, 1261), 20, i);
        }
        TestImage odd = pair(image(1), PLACE, 7, 1);
        odd.words(FILED + 1, TARGET, 3, 77);
        written("a table at an odd address", odd, 0, TARGET, 77);
    }

    /** Sixty relocations that write 60 words behind them, in a tape that is nearly full. */
    private static TestImage sixtyRelocations() {
        TestImage image = new TestImage(3, 0, 2, 860).head(0, 1, 140, 0, 720, 1264, 7, 0).head(1, 2, 116, 0, 24, 0, 0, 0);
        image.words(116, 7, 0, 8, 720, 9, 12);
        for (int i = 0; i < 60; i++) {
            image.words(140 + 12 * i, 1024 + 4 * i, 3, 7 * i);
        }
        return image;
    }

    private static void numberOfASymbol() {
        Check.sentence("The lowest byte of what is its sort, the others the number of its symbol.");
        for (int number = 1; number <= 4; number++) {
            long what = 256L * number + 1;
            written("symbol " + number, relocation(image(1), 0, TARGET, what, 0), 0, TARGET, 1000 * number + 7);
        }
        long[] beyond = {0x10001, 0x1000001, 0x80000001L, 0xFFFFFF01L};
        for (long what : beyond) {
            faulty("what is " + what, relocation(image(1), 0, TARGET, what, 0), 22, 0);
            sound("sort 3 has no symbol", relocation(image(1), 0, TARGET, what + 2, 0), 1);
        }
        faulty("the lowest byte is 129", relocation(image(1), 0, TARGET, 129, 0), 21, 0);
    }

    private static void endOfPairs() {
        Check.sentence("the pairs of words from its OFFSET on, FILED bytes in all, up to one whose first word is 0");
        sound("all pairs", image(2), 2);
        for (int i = 0; i < 5; i++) {
            TestImage image = relocation(image(2), 0, TARGET, 0x101, 0);
            for (int k = 8; k > i; k--) {
                pair(image, k, keyOf(k - 1), valueOf(k - 1));
            }
            pair(image, i, 0, 5);
            int[] faults = {0, 0, 19, 22, 22};
            if (faults[i] == 0) {
                sound("ended at pair " + i, image, 0);
            } else {
                faulty("ended at pair " + i, image, faults[i], faults[i] == 19 ? DYNAMIC_HEAD : 0);
            }
            sound("its second word is 0, not its first", pair(image, i, 5, 0), 2);
        }
        sound("ended behind all", pair(image(2), 5, 0, 8), 2);
        sound("behind the end nothing counts", pair(pair(image(2), 5, 0, 0), 6, 8, 13), 2);
        sound("a first word with a high bit is not 0", pair(pair(image(2), 5, HIGH, 0), 6, 8, 12), 1);
        faulty("so what is behind counts", pair(pair(image(2), 5, HIGH, 0), 6, 8, 13), 19, DYNAMIC_HEAD);
        sound("no pair is filed", image(2).word(100, 0), 0);
        sound("one pair is filed", image(2).word(100, 8), 0);
        faulty("two are", image(2).word(100, 16), 19, DYNAMIC_HEAD);
        sound("three are", image(2).word(100, 24), 2);
        sound("five of six", pair(image(2), 5, 8, 13).word(100, 40), 2);
        faulty("six of six", pair(image(2), 5, 8, 13).word(100, 48), 19, DYNAMIC_HEAD);
        TestImage nine = image(2);
        for (int i = 5; i < 8; i++) {
            pair(nine, i, 5, 5);
        }
        sound("eight of nine", pair(nine, 8, 8, 13).word(100, 64), 2);
        faulty("nine of nine", nine.word(100, 72), 19, DYNAMIC_HEAD);
    }

    private static long keyOf(int pair) {
        int[] keys = {7, 8, 9, 6, 11, 5, 5, 5, 5};
        return keys[pair];
    }

    private static long valueOf(int pair) {
        int[] values = {TABLE, 24, 12, SYMBOLS, 16, 0, 0, 0, 0};
        return values[pair];
    }

    private static void severalPairs() {
        Check.sentence("(of several the last one");
        TestImage image = relocation(image(2), 0, TARGET, 0x101, 0);
        sound("each once", image, 2);
        int[] faults = {20, 19, 19, 22, 22};
        long[] wrong = {16384, 13, 13, 16384, 17};
        for (int i = 0; i < 5; i++) {
            TestImage last = relocation(image(2), 0, TARGET, 0x101, 0);
            pair(last, 7, keyOf(i), wrong[i]);
            pair(last, 5, 5, 5);
            pair(last, 6, 5, 5);
            faulty("the last one of " + keyOf(i) + " is wrong", last, faults[i], faults[i] == 19 ? DYNAMIC_HEAD : 0);
            TestImage first = relocation(image(2), 0, TARGET, 0x101, 0);
            pair(first, i, keyOf(i), wrong[i]);
            pair(first, 5, keyOf(i), wrong[i] + 1);
            pair(first, 6, keyOf(i), valueOf(i));
            sound("the first ones of " + keyOf(i) + " are wrong", first, 2);
        }
    }

    private static void notTold() {
        Check.sentence("0 if not told");
        TestImage place = pair(relocation(image(2), 0, TARGET, 3, 5), PLACE, 5, 5);
        written("the place of the table is 0", place, 0, TARGET, 5);
        sound("no bytes of relocations", pair(image(2), BYTES, 5, 5), 0);
        faulty("no bytes each", pair(image(2), EACH, 5, 5), 19, DYNAMIC_HEAD);
        sound("no bytes each of none", pair(image(0), EACH, 5, 5), 0);
        TestImage symbols = pair(relocation(image(1), 0, TARGET, 0x101, 0), SYMBOL_PLACE, 5, 5);
        symbols.words(FILED + 16, 9, 4711, 9, 0x00010000L);
        written("the place of the symbols is 0", symbols, 0, TARGET, 4711);
        faulty("no bytes of each symbol", pair(relocation(image(1), 0, TARGET, 0x101, 0), SYMBOL_EACH, 5, 5), 22, 0);
        faulty("nor of symbol 0", pair(relocation(image(1), 0, TARGET, 1, 0), SYMBOL_EACH, 5, 5), 22, 0);
        sound("which other sorts don't want", pair(relocation(image(1), 0, TARGET, 3, 0), SYMBOL_EACH, 5, 5), 1);
        notToldNow();
    }

    /** What an image before told is not told by this one. */
    private static void notToldNow() {
        int[] faults = {20, 0, 19, 23, 22};
        for (int i = 0; i < 5; i++) {
            TestImage image = relocation(image(1), 0, HELD, 3, 0);
            relocation(image, 1, TARGET, 0x101, 0);
            pair(image, PLACE, 7, 12);
            if (i > 0) {
                relocation(image, 0, TARGET, 0x101, 0);
                pair(image, PLACE, 7, 0);
            }
            ImageLoader x = image.on(64);
            Check.same("all are told", x.load(0), 1);
            pair(image, i, 5, 5).onto(x);
            Check.same("without pair " + i, x.load(2048), faults[i] == 0 ? 0 : -10 - faults[i]);
            image.word(DYNAMIC_HEAD, 4).onto(x);
            Check.same("without a head of kind 2", x.load(4096), 0);
        }
    }

    private static void otherPairs() {
        Check.sentence("others mean nothing)");
        long[] keys = {1, 2, 3, 4, 5, 10, 12, 0x106, 0x107, 0x108, 0x109, 0x10B, 0x10008, HIGH + 6, HIGH + 7, HIGH + 8, HIGH + 9,
            HIGH + 11, ALL};
        for (long key : keys) {
            TestImage image = relocation(image(2), 0, TARGET, 0x101, 0);
            sound("key " + key, pair(image, 5, key, 17), 2);
            TestImage before = relocation(image(2), 0, TARGET, 0x101, 0);
            for (int k = 8; k > 0; k--) {
                pair(before, k, keyOf(k - 1), valueOf(k - 1));
            }
            sound("key " + key + " before all", pair(before, 0, key, 17), 2);
        }
    }

    private static void multipleOfTwelve() {
        Check.sentence("19 (t): the bytes are no multiple of 12");
        for (int bytes = 0; bytes <= 40; bytes++) {
            TestImage image = pair(image(0), BYTES, 8, bytes);
            if (bytes % 12 == 0) {
                sound(bytes + " bytes", image, bytes / 12);
            } else {
                faulty(bytes + " bytes", image, 19, DYNAMIC_HEAD);
            }
        }
        long[] wrong = {713, 719, 721, HIGH, HIGH + 12, ALL, ALL - 11};
        for (long bytes : wrong) {
            faulty(bytes + " bytes", pair(image(0), BYTES, 8, bytes), 19, DYNAMIC_HEAD);
        }
        faulty("before a faulty relocation", pair(pair(image(0), BYTES, 8, 13), PLACE, 7, 16384), 19, DYNAMIC_HEAD);
    }

    private static void eachIsTwelve() {
        Check.sentence("19 or are some, and each is not 12");
        long[] wrong = {0, 1, 6, 11, 13, 24, 0x10C, 0x1000C, HIGH + 12, ALL};
        for (long each : wrong) {
            faulty("each " + each, pair(image(1), EACH, 9, each), 19, DYNAMIC_HEAD);
            sound("each " + each + " of none", pair(image(0), EACH, 9, each), 0);
        }
        sound("each 12", pair(image(1), EACH, 9, 12), 1);
    }

    private static void sixty() {
        Check.sentence("19 or there are more than 60 relocations");
        int[] counts = {58, 59, 60};
        for (int count : counts) {
            sound(count + " relocations", pair(wide(count), PLACE, 7, SECOND), count);
        }
        long[] wrong = {61, 62, 100, 0x0AAAAAAAL, 0x15555555L};
        for (long count : wrong) {
            faulty(count + " relocations", pair(pair(wide(0), PLACE, 7, SECOND), BYTES, 8, 12 * count), 19, DYNAMIC_HEAD);
        }
    }

    private static TestImage wide(int count) {
        return image(count).head(2, 1, 0, SECOND, 0, 2000, 6, 0);
    }

    private static void tableHeld() {
        Check.sentence("20 its twelve bytes");
        long[] right = {0, HELD - 13, HELD - 12, SECOND, SECOND + 1, SECOND + SECOND_HELD - 12};
        for (long place : right) {
            TestImage image = pair(image(1), PLACE, 7, place);
            sound("at " + place, image.words(FILED, 0, 0, 0), 1);
        }
        long[] wrong = {HELD - 11, HELD - 1, HELD, 400, SECOND - 12, SECOND - 11, SECOND - 1, SECOND + SECOND_HELD - 11,
            SECOND + SECOND_HELD, 16372, 16373, 16384, HIGH, ALL - 11, ALL};
        for (long place : wrong) {
            faulty("at " + place, pair(image(1), PLACE, 7, place), 20, 0);
        }
        int room = SECOND_HELD / 12;
        sound("as many as have room", pair(image(room), PLACE, 7, SECOND + SECOND_HELD - 12 * room), room);
        faulty("one more", pair(image(room + 1), PLACE, 7, SECOND + SECOND_HELD - 12 * room), 20, room);
        faulty("one byte further on", pair(image(room), PLACE, 7, SECOND + SECOND_HELD - 12 * room + 1), 20, room - 1);
        sound("none wants no table", pair(image(0), PLACE, 7, 16384), 0);
    }

    private static void targetHeld() {
        Check.sentence("20 or the four from where (and the BASE) on, are not all held by segments of this image (i)");
        long[] right = {0, 1, HELD - 5, HELD - 4, SECOND, SECOND + SECOND_HELD - 5, SECOND + SECOND_HELD - 4};
        long[] wrong = {HELD - 3, HELD - 1, HELD, SECOND - 4, SECOND - 3, SECOND - 1, SECOND + SECOND_HELD - 3,
            SECOND + SECOND_HELD, 16380, 16381, 16384, HIGH, ALL - 3, ALL - 2, ALL};
        int[] sorts = {0, 1, 3};
        for (int sort : sorts) {
            for (long where : right) {
                sound("sort " + sort + " at " + where, relocation(image(2), 1, where, sort, 0), 2);
            }
            for (long where : wrong) {
                faulty("sort " + sort + " at " + where, relocation(image(2), 1, where, sort, 0), 20, 1);
            }
        }
        faulty("it comes before 21", relocation(image(1), 0, HELD, 2, 0), 20, 0);
        faulty("and before 22", relocation(image(1), 0, HELD, ALL - 254, 0), 20, 0);
    }

    private static void heldByThisImage() {
        Check.sentence("held by segments of this image");
        TestImage image = new TestImage(3, 0, 3, 200);
        image.head(0, 1, 0, 0, 0, 256, 7, 0).head(1, 1, 0, 256, 0, 256, 4, 0).head(2, 2, 148, 0, 40, 0, 0, 0);
        image.words(148, 7, 250, 8, 12, 9, 12, 6, 250, 11, 16);
        sound("by two segments side by side", image, 1);
        faulty("a byte between them is not held", image.word(72, 255), 20, 0);
        sound("in the first one alone", image.words(148, 7, 243), 1);
        faulty("one byte further on", image.words(148, 7, 244), 20, 0);
        TestImage far = new TestImage(3, 0, 2, 188).head(0, 1, 0, 0, 0, 256, 7, 0).head(1, 2, 148, 0, 40, 0, 0, 0);
        for (int place = 245; place <= 256; place++) {
            far.words(148, 7, place, 8, 12, 9, 12);
            Twin.faulty("by another image's, from " + place + " on", Twin.used(64, far), 9984, 20, 0);
        }
        Check.same("by its own", Twin.used(64, far.words(148, 7, 244)).made().load(9984), 1);
        int[] pages = {40, 41, 42};
        for (int page : pages) {
            far.words(148, 7, 256 * page, 8, 12, 9, 12);
            Twin.faulty("by page " + page, Twin.used(64, far), 0, 20, 0);
            TestImage two = pair(image(1), PLACE, 7, 256 * page);
            Twin.faulty("by page " + page + ", of two segments", Twin.used(64, two), 0, 20, 0);
        }
        TestImage rest = new TestImage(3, 0, 2, 188).head(0, 1, 0, 0, 0, 100, 7, 0).head(1, 2, 148, 0, 40, 0, 0, 0);
        sound("up to its last held byte", rest.words(148, 7, 88, 8, 12, 9, 12), 1);
        faulty("in its page, but not held", rest.words(148, 7, 89, 8, 12, 9, 12), 20, 0);
    }

    private static void sorts() {
        Check.sentence("21 its sort is not 0, 1, 3 (i)");
        for (int sort = 0; sort < 256; sort++) {
            if (sort == 0 || sort == 1 || sort == 3) {
                sound("sort " + sort, relocation(image(2), 1, TARGET, sort, 0), 2);
            } else if (sort < 9 || sort > 250 || sort % 64 < 4) {
                faulty("sort " + sort, relocation(image(2), 1, TARGET, sort, 0), 21, 1);
                faulty("sort " + sort + " with a symbol", relocation(image(2), 0, TARGET, 0x100 + sort, 0), 21, 0);
            }
        }
        faulty("the others are no sort", relocation(image(1), 0, TARGET, 0x00000302, 0), 21, 0);
        sound("the others are no sort", relocation(image(1), 0, TARGET, 0x02020203, 0), 1);
    }

    private static void sortZero() {
        Check.sentence("Sort 0 does nothing");
        TestImage image = image(2).word(FILED + TARGET, 0x01020304);
        written("with no symbol", relocation(image, 0, TARGET, 0, 99), 2048, TARGET, 0x01020304);
        written("with a symbol", relocation(image, 0, TARGET, 0x100, 99), 2048, TARGET, 0x01020304);
        written("with a symbol that is none", relocation(image, 0, TARGET, 0xFFFFFF00L, 99), 2048, TARGET, 0x01020304);
        sound("it counts as done", image, 2);
    }

    private static void sortThree() {
        Check.sentence("3 writes there BASE + more");
        int[] bases = {0, 256, 2048};
        for (int base : bases) {
            written("more 0", relocation(image(1), 0, TARGET, 3, 0), base, TARGET, base);
            written("more 1", relocation(image(1), 0, TARGET, 3, 1), base, TARGET, base + 1);
            written("the first four", relocation(image(1), 0, 0, 3, 77), base, 0, base + 77);
            written("the last four", relocation(image(1), 0, HELD - 4, 3, 77), base, HELD - 4, base + 77);
            written("an odd address", relocation(image(1), 0, 255, 3, 0x01020300), base, 255, 0x01020300L + base);
            written("a symbol that is none", relocation(image(1), 0, TARGET, 0xFFFFFF03L, 1), base, TARGET, base + 1);
        }
        TestImage fixed = relocation(image(1), 0, TARGET, 3, 5).half(16, 2);
        ImageLoader x = fixed.on(9);
        Check.same("sort 2", x.load(2048), 1);
        Check.same("its base is 0", x.read(TARGET, 4), 5);
    }

    private static void sortOne() {
        Check.sentence("1 writes there more and the symbol's value");
        long[] mores = {0, 1, 0x7FFFFFFFL, HIGH, ALL};
        for (long more : mores) {
            written("more " + more, relocation(image(1), 0, TARGET, 0x201, more), 0, TARGET, more + 2007 & ALL);
            written("more " + more + " and symbol 0", relocation(image(1), 0, TARGET, 1, more), 256, TARGET, more);
        }
        TestImage image = relocation(image(1), 0, TARGET, 0x201, 5).word(FILED + TARGET, 99);
        written("what was there does not count", image, 0, TARGET, 2012);
        written("the first four", relocation(image(1), 0, 0, 0x201, 5), 0, 0, 2012);
        written("the last four", relocation(image(1), 0, HELD - 4, 0x201, 5), 0, HELD - 4, 2012);
        written("an odd address", relocation(image(1), 0, 255, 0x201, 5), 0, 255, 2012);
    }

    private static void valueOfASymbol() {
        Check.sentence("the value is 0 for the symbol 0, else the word from its byte 4 on and the BASE");
        int[] bases = {0, 256, 2048};
        for (int base : bases) {
            written("symbol 0", relocation(image(1), 0, TARGET, 1, 5), base, TARGET, 5);
            written("symbol 1", relocation(image(1), 0, TARGET, 0x101, 5), base, TARGET, 1007 + base + 5);
            written("symbol 4", relocation(image(1), 0, TARGET, 0x401, 0), base, TARGET, 4007 + base);
        }
        TestImage fixed = relocation(image(1), 0, TARGET, 0x101, 5).half(16, 2);
        ImageLoader x = fixed.on(9);
        Check.same("sort 2", x.load(2048), 1);
        Check.same("its base is 0", x.read(TARGET, 4), 1012);
    }

    /** The symbols lie in the second segment, whose bytes are 0s. */
    private static void symbolHeld() {
        Check.sentence("22 its sixteen bytes from the address of the symbols, the BASE and 16 times its number on "
            + "are not all held likewise");
        TestImage zero = relocation(image(2), 1, TARGET, 1, 0);
        long[] right = {0, HELD - 16, SECOND, SECOND + SECOND_HELD - 16};
        for (long place : right) {
            sound("symbol 0 at " + place, pair(zero, SYMBOL_PLACE, 6, place), 2);
        }
        long[] wrong = {HELD - 15, HELD, SECOND - 16, SECOND - 1, SECOND + SECOND_HELD - 15, 16368, 16369, 16384, HIGH, ALL - 15, ALL};
        for (long place : wrong) {
            faulty("symbol 0 at " + place, pair(zero, SYMBOL_PLACE, 6, place), 22, 1);
        }
        long last = (HELD - SYMBOLS) / 16 - 1;
        TestImage image = image(1);
        faulty("the last one that is held: 23 is next", relocation(image, 0, TARGET, last << 8 | 1, 0), 23, 0);
        faulty("one behind it", relocation(image, 0, TARGET, last + 1 << 8 | 1, 0), 22, 0);
        long second = (SECOND - SYMBOLS) / 16;
        faulty("one before the second segment", relocation(image, 0, TARGET, second - 1 << 8 | 1, 0), 22, 0);
        faulty("the first in it: 23 is next", relocation(image, 0, TARGET, second << 8 | 1, 0), 23, 0);
        faulty("the greatest number", relocation(image, 0, TARGET, 0xFFFFFF01L, 0), 22, 0);
        faulty("it comes before 23", relocation(image, 0, TARGET, last + 1 << 8 | 1, 0), 22, 0);
    }

    private static void symbolSize() {
        Check.sentence("22 or each is not 16 (i)");
        long[] wrong = {0, 1, 8, 15, 17, 32, 0x110, 0x10010, HIGH + 16, ALL};
        for (long each : wrong) {
            for (int number = 0; number <= 1; number++) {
                TestImage image = pair(relocation(image(2), 1, TARGET, 256 * number + 1, 0), SYMBOL_EACH, 11, each);
                faulty("each " + each + ", symbol " + number, image, 22, 1);
                sound("sort 3 does not ask", relocation(image, 1, TARGET, 256 * number + 3, 0), 2);
                sound("sort 0 does not ask", relocation(image, 1, TARGET, 256 * number, 0), 2);
            }
        }
        sound("each 16", relocation(image(2), 1, TARGET, 0x101, 0), 2);
        TestImage both = pair(relocation(image(1), 0, TARGET, 0x101, 0), SYMBOL_EACH, 11, 15);
        faulty("it comes before 23", both.half(FILED + SYMBOLS + 30, 0), 22, 0);
    }

    private static void symbolWithoutPlace() {
        Check.sentence("23 its number is not 0, and the number of 2 bytes from its byte 14 on is 0 (i)");
        sound("symbol 0 of 0", relocation(image(1), 0, TARGET, 1, 0), 1);
        sound("symbol 0 of 1", relocation(image(1), 0, TARGET, 1, 0).half(FILED + SYMBOLS + 14, 1), 1);
        for (int number = 1; number <= 4; number++) {
            int at = FILED + SYMBOLS + 16 * number;
            TestImage image = relocation(image(2), 1, TARGET, 256 * number + 1, 0);
            faulty("symbol " + number + " of 0", image.half(at + 14, 0), 23, 1);
            int[] some = {1, 255, 256, 0x8000, 0xFFFF};
            for (int value : some) {
                sound("symbol " + number + " of " + value, image.half(at + 14, value), 2);
            }
            image.half(at + 14, 0).half(at + 12, 0xFFFF).half(at + 16, 0xFFFF);
            faulty("bytes 12, 13, 16 and 17 don't matter", image, 23, 1);
        }
    }

    private static void runsOver() {
        Check.sentence("(All in 32 bits that run over");
        written("BASE + more", relocation(image(1), 0, TARGET, 3, ALL - 2047), 2048, TARGET, 0);
        written("BASE + more, one less", relocation(image(1), 0, TARGET, 3, ALL - 2048), 2048, TARGET, ALL);
        TestImage value = relocation(image(1), 0, TARGET, 0x101, 0);
        written("a value and the BASE", value.word(FILED + SYMBOLS + 20, ALL - 2047), 2048, TARGET, 0);
        written("one less", value.word(FILED + SYMBOLS + 20, ALL - 2048), 2048, TARGET, ALL);
        TestImage more = relocation(image(1), 0, TARGET, 0x101, ALL);
        written("more and a value", more.word(FILED + SYMBOLS + 20, 1), 0, TARGET, 0);
        written("more and a value, with the BASE", more, 256, TARGET, 256);
        written("more and symbol 0", relocation(image(1), 0, TARGET, 1, ALL), 256, TARGET, ALL);
        TestImage place = relocation(image(1), 0, TARGET, 0x0A01, 0);
        pair(place, SYMBOL_PLACE, 6, 0x100000000L + SYMBOLS - 16 * 8);
        written("the symbol's place", place, 2048, TARGET, 2007 + 2048);
        written("without a base", place, 0, TARGET, 2007);
    }

    private static void readLater() {
        Check.sentence("what is written may be what is read later.)");
        TestImage words = relocation(image(2), 0, 12, 3, TARGET);
        relocation(words, 1, ALL, 3, 9);
        written("the next one's where", words, 0, TARGET, 9);
        TestImage what = relocation(image(2), 0, 16, 3, 3);
        relocation(what, 1, TARGET, 9, 9);
        written("the next one's sort", what, 0, TARGET, 9);
        TestImage more = relocation(image(2), 0, 20, 3, 4711);
        relocation(more, 1, TARGET, 3, 9);
        written("the next one's more", more, 0, TARGET, 4711);
        TestImage symbol = relocation(image(2), 0, SYMBOLS + 20, 3, 50);
        relocation(symbol, 1, TARGET, 0x101, 0);
        written("a symbol's value", symbol, 256, TARGET, 50 + 256 + 256);
        TestImage part = relocation(image(2), 0, SYMBOLS + 28, 3, 0);
        relocation(part, 1, TARGET, 0x101, 0);
        faulty("a symbol's place", part.half(16, 2), 23, 1);
        TestImage earlier = relocation(image(2), 1, 0, 3, ALL);
        sound("one before is not read again", relocation(earlier, 0, TARGET, 3, 9), 2);
        TestImage itself = relocation(image(1), 0, 0, 3, 77);
        written("its own where", itself, 256, 0, 77 + 256);
        TestImage ownSymbol = relocation(image(1), 0, SYMBOLS + 20, 0x101, 1);
        written("its own symbol", ownSymbol, 256, SYMBOLS + 20, 1007 + 256 + 1);
    }

    private static void asItWas() {
        Check.sentence("With a fault here, too, all is as it was.");
        int[][] faults = {{HELD, 3, 20}, {TARGET, 2, 21}, {TARGET, 0x7F01, 22}, {TARGET, 0x501, 23}};
        for (int[] row : faults) {
            for (int i = 0; i < 7; i++) {
                TestImage image = image(7);
                for (int k = 0; k < 7; k++) {
                    relocation(image, k, SECOND + 4 * k, 3, k);
                }
                sound("seven", image, 7);
                faulty("the last one is " + row[2], relocation(image, i, row[0], row[1], 0), row[2], i);
                Twin.faulty("all frames are wanted", Twin.used(8, image), 2048, row[2], i);
            }
        }
        TestImage image = relocation(image(1), 0, TARGET, 2, 5);
        ImageLoader x = Twin.used(8, image).made();
        for (int i = 0; i < 9; i++) {
            Check.same("time " + i, x.load(2048), -31);
        }
        x.poke(FILED + 4, 1, 3);
        Check.same("the frames were given back", x.load(2048), 1);
        Check.same("it is relocated once", x.read(2048 + TARGET, 4), 2053);
        Check.same("pages", x.count(0), 8);
    }
}
