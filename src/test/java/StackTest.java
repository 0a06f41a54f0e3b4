/** Promise 9: stack. */
public final class StackTest {
    public static void main(String[] args) {
        bad();
        without();
        arguments();
        empties();
        room();
        refused();
        clean();
        Check.end();
    }

    private static void text(ImageLoader x, String text) {
        x.cut(0);
        for (int i = 0; i < text.length(); i++) {
            x.add(text.charAt(i), 1);
        }
    }

    private static void bad() {
        ImageLoader x = new ImageLoader(64);
        text(x, "abc");
        int[] bad = {0, -1, 17, 64, Integer.MIN_VALUE, Integer.MAX_VALUE};
        for (int n : bad) {
            Check.same("stack(" + n + ")", x.stack(n), ImageLoader.BAD);
        }
        Check.same("the tape stays", x.count(4), 3);
        Check.same("nothing is mapped", x.count(0), 0);
    }

    private static void without() {
        for (int n = 1; n <= 16; n++) {
            ImageLoader x = new ImageLoader(n);
            Check.same("stack(" + n + ")", x.stack(n), 16368);
            Check.same("pages", x.count(0), n);
            Check.same("to write", x.count(2), n);
            Check.same("to read", x.count(3), n);
            Check.same("to fetch", x.count(1), 0);
            Check.same("below it", x.rights(63 - n), ImageLoader.NONE);
            Check.same("the lowest", x.rights(64 - n), 6);
            Check.same("the highest", x.rights(63), 6);
            Check.same("no arguments", x.read(16368, 4), 0);
            Check.same("the address's place", x.read(16372, 4), 0);
        }
    }

    private static void arguments() {
        ImageLoader x = new ImageLoader(64);
        text(x, "ls\0-l\0/tmp\u00ff");
        Check.same("three arguments", x.stack(2), 16336);
        Check.same("the tape is empty", x.count(4), 0);
        long[] due = {3, 16372, 16375, 16378, 0, 0};
        for (int i = 0; i < due.length; i++) {
            Check.same("word " + i, x.read(16336 + 4 * i, 4), due[i]);
        }
        String bytes = "ls\0-l\0/tmp\u00ff\0";
        for (int i = 0; i < bytes.length(); i++) {
            Check.same("byte " + i, x.read(16384 - bytes.length() + i, 1), bytes.charAt(i));
        }
        for (int address = 16128; address < 16336; address += 4) {
            Check.same("below the pointer", x.read(address, 4), 0);
        }
        ImageLoader y = new ImageLoader(64);
        text(y, "ls\0-l\0/tmp\u00ff\0");
        Check.same("with its last 0", y.stack(2), 16336);
        Check.same("is the same", y.sum(60, 4), x.sum(60, 4));
        Check.same("the tape is new", y.add(1, 1), 1);
    }

    private static void empties() {
        String[] texts = {"a", "ab", "\0", "\0\0", "a\0\0", "\0a", "\0\0\0b\0", "a\0\0\0\0\0"};
        int[] counts = {1, 1, 1, 2, 2, 2, 4, 5};
        for (int i = 0; i < texts.length; i++) {
            ImageLoader x = new ImageLoader(64);
            text(x, texts[i]);
            int bytes = texts[i].endsWith("\0") ? texts[i].length() : texts[i].length() + 1;
            int pointer = (16384 - bytes - 4 * (counts[i] + 3)) / 16 * 16;
            Check.same("pointer of text " + i, x.stack(1), pointer);
            Check.same("arguments of text " + i, x.read(pointer, 4), counts[i]);
            int address = 16384 - bytes;
            int from = 0;
            for (int k = 0; k < counts[i]; k++) {
                Check.same("address of argument " + k, x.read(pointer + 4 + 4 * k, 4), address + from);
                int end = texts[i].indexOf('\0', from);
                from = end < 0 ? from : end + 1;
            }
            Check.same("behind them", x.read(pointer + 4 + 4 * counts[i], 4), 0);
            Check.same("and again", x.read(pointer + 8 + 4 * counts[i], 4), 0);
        }
    }

    /** With one argument, 16 bytes are words: 240 bytes of text fill one page. */
    private static void room() {
        int[][] sizePagesPointer = {{239, 1, 16128}, {240, 1, -3}, {240, 2, 16112}, {238, 1, 16128}, {224, 1, 16128},
            {223, 1, 16144}, {15, 1, 16352}, {16, 1, 16336}, {495, 2, 15872}, {496, 2, -3}, {900, 3, -3}, {900, 4, 15456}};
        for (int[] row : sizePagesPointer) {
            ImageLoader x = new ImageLoader(64);
            for (int i = 0; i + 8 <= row[0]; i += 8) {
                x.add(0x4141414141414141L, 8);
            }
            for (int i = row[0] / 8 * 8; i < row[0]; i++) {
                x.add(0x42, 1);
            }
            Check.same("stack of " + row[0] + " bytes", x.stack(row[1]), row[2]);
            Check.same("the tape", x.count(4), row[2] < 0 ? row[0] : 0);
            Check.same("the pages", x.count(0), row[2] < 0 ? 0 : row[1]);
        }
        // Every 0 is an argument: a byte and a word each.
        int[][] zerosPagesPointer = {{816, 16, 12288 + 4}, {817, 16, -3}, {900, 16, -3}, {48, 1, 16128 + 4}, {49, 1, -3}, {49, 2, 1}};
        for (int[] row : zerosPagesPointer) {
            ImageLoader x = new ImageLoader(64);
            x.zeros(row[0]);
            int due = (16384 - row[0] - 4 * (row[0] + 3)) / 16 * 16;
            Check.same("stack of " + row[0] + " zeros", x.stack(row[1]), row[2] < 0 ? ImageLoader.REFUSED : due);
        }
    }

    private static void refused() {
        ImageLoader x = TestImage.plain(256).on(3);
        Check.same("a page", x.load(15360), 0);
        text(x, "abc");
        Check.same("not so many frames", x.stack(3), ImageLoader.REFUSED);
        Check.same("one of them is mapped", x.stack(4), ImageLoader.REFUSED);
        Check.same("the tape stays", x.count(4), 3);
        Check.same("its first byte", x.peek(0), 'a');
        Check.same("nothing came", x.count(0), 1);
        Check.same("frames enough", x.stack(2), 16352);
        Check.same("all frames", x.count(0), 3);
        text(x, "abc");
        Check.same("it is there", x.stack(1), ImageLoader.REFUSED);
        x.unmap(63, 1);
        Check.same("one of two is there", x.stack(2), ImageLoader.REFUSED);
        Check.same("one of one is not", x.stack(1), 16352);
        for (int page = 62; page < 64; page++) {
            ImageLoader z = TestImage.plain(256).on(64);
            Check.same("a page", z.load(256 * page), 0);
            z.cut(0);
            Check.same("two with page " + page, z.stack(2), ImageLoader.REFUSED);
            Check.same("one with page " + page, z.stack(1), page == 63 ? ImageLoader.REFUSED : 16368);
        }
        ImageLoader y = TestImage.plain(256).on(64);
        Check.same("a page", y.load(15360), 0);
        Check.same("it is the lowest of four", y.stack(4), ImageLoader.REFUSED);
        y.cut(0);
        Check.same("it is below three", y.stack(3), 16368);
    }

    private static void clean() {
        ImageLoader x = new ImageLoader(64);
        x.stack(1);
        for (int address = 16128; address < 16384; address += 4) {
            x.write(address, 4, -1);
        }
        x.unmap(63, 1);
        x.stack(1);
        int zeros = 7;
        for (int i = 0; i < 256; i++) {
            zeros = 31 * zeros;
        }
        Check.same("a new stack has 0s", x.sum(63, 1), zeros);
    }
}
