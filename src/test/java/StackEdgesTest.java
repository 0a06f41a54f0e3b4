/** The edges of promise 9 and of a stack, a sentence of the document each. */
public final class StackEdgesTest {
    private static final int BAD = ImageLoader.BAD;
    private static final int NONE = ImageLoader.NONE;
    private static final int REFUSED = ImageLoader.REFUSED;
    private static final int END = 16384;

    public static void main(String[] args) {
        pages();
        rights();
        zerosElse();
        lastZero();
        noBytes();
        emptyArguments();
        highest();
        multiples();
        words();
        pointerIsMultiple();
        sizes();
        mappedPages();
        frames();
        room();
        roomOfMany();
        tape();
        Check.end();
    }

    /** An object with the text on its tape. */
    private static Twin.State text(int frames, String text) {
        return () -> {
            ImageLoader x = new ImageLoader(frames);
            put(x, text);
            return x;
        };
    }

    private static void put(ImageLoader x, String text) {
        x.cut(0);
        for (int i = 0; i < text.length(); i += 8) {
            int n = Math.min(8, text.length() - i);
            long w = 0;
            for (int k = 0; k < n; k++) {
                w |= (long) text.charAt(i + k) << (8 * k);
            }
            x.add(w, n);
        }
        Check.same("the text", x.count(4), text.length());
    }

    private static String letters(int n) {
        return "x".repeat(n);
    }

    /** The document's words put plainly: the arguments, and as many words below them. */
    private static int pointer(int bytes, int arguments) {
        int pointer = END;
        while (pointer + 4 * (arguments + 3) > END - bytes) {
            pointer -= 16;
        }
        return pointer;
    }

    private static void pages() {
        Check.sentence("A STACK of n pages: the highest n pages come to be mapped");
        for (int n = 1; n <= 16; n++) {
            ImageLoader x = new ImageLoader(64);
            Check.same("stack(" + n + ")", x.stack(n), 16368);
            for (int page = 0; page < 64; page++) {
                Check.same("page " + page + " of " + n, x.rights(page), page >= 64 - n ? 6 : NONE);
            }
            Check.same("pages", x.count(0), n);
        }
    }

    private static void rights() {
        Check.sentence("with the rights 6");
        ImageLoader x = new ImageLoader(64);
        x.stack(2);
        Check.same("to write", x.write(15872, 4, 0x01020304), 0);
        Check.same("to read", x.read(15872, 4), 0x01020304);
        Check.same("not to fetch", x.fetch(15872), -2);
        Check.same("the last: to write", x.write(16380, 4, 5), 0);
        Check.same("the last: to read", x.read(16380, 4), 5);
        Check.same("the last: not to fetch", x.fetch(16380), -2);
        Check.same("what they were", x.protect(62, 7), 6);
    }

    private static void zerosElse() {
        Check.sentence("and have 0s but for this");
        for (int n = 1; n <= 3; n++) {
            ImageLoader x = new ImageLoader(64);
            x.stack(n);
            for (int a = END - 256; a < END; a += 4) {
                x.write(a, 4, -1);
            }
            x.write(END - 256 * n, 4, -1);
            Check.same("it goes", x.unmap(64 - n, n), n);
            put(x, "ab");
            int pointer = x.stack(n);
            Check.same("pointer", pointer, 16352);
            int sum = 7;
            for (int a = END - 256 * n; a < END; a++) {
                int due = a == pointer ? 1 : a == pointer + 4 ? (END - 3) & 255 : a == pointer + 5 ? (END - 3) >> 8 : 0;
                due = a == END - 3 ? 'a' : a == END - 2 ? 'b' : due;
                sum = 31 * sum + due;
            }
            Check.same("all bytes of " + n, x.sum(64 - n, n), sum);
        }
    }

    private static void lastZero() {
        Check.sentence("each some bytes and a 0 (that of the last one may lack: it is there then)");
        String[] texts = {"a", "ab", "abc", "a\0b", "a\0\0b", letters(15), letters(16), letters(239), letters(14) + "\0x"};
        for (String text : texts) {
            ImageLoader lacks = text(64, text).made();
            ImageLoader has = text(64, text + "\0").made();
            int pointer = lacks.stack(3);
            Check.same("the same pointer", has.stack(3), pointer);
            Check.same("the same bytes", has.sum(61, 3), lacks.sum(61, 3));
            Check.same("the highest byte is 0", lacks.read(END - 1, 1), 0);
            Check.same("below it is the last letter", lacks.read(END - 2, 1), text.charAt(text.length() - 1));
        }
        ImageLoader two = text(64, "a\0\0").made();
        Check.same("a second 0 is an argument of its own", two.read(two.stack(1), 4), 2);
    }

    private static void noBytes() {
        Check.sentence("without bytes there are none");
        ImageLoader x = new ImageLoader(64);
        Check.same("pointer", x.stack(1), 16368);
        for (int a = 16368; a < END; a += 4) {
            Check.same("the word at " + a, x.read(a, 4), 0);
        }
        ImageLoader cut = text(64, "abc").made();
        cut.cut(0);
        Check.same("pointer of one that was cut", cut.stack(1), 16368);
        Check.same("none", cut.read(16368, 4), 0);
        Check.same("no letter", cut.read(16380, 4), 0);
        ImageLoader one = text(64, "\0").made();
        Check.same("pointer of a 0", one.stack(1), 16352);
        Check.same("which is one", one.read(16352, 4), 1);
        Check.same("at the highest address", one.read(16356, 4), END - 1);
    }

    private static void emptyArguments() {
        Check.sentence("each some bytes and a 0");
        String[] texts = {"\0", "\0\0", "\0a", "a\0\0", "\0\0a\0\0", "\0a\0", "\0\0\0\0\0\0\0\0"};
        int[] counts = {1, 2, 2, 2, 4, 2, 8};
        for (int i = 0; i < texts.length; i++) {
            String text = texts[i].endsWith("\0") ? texts[i] : texts[i] + "\0";
            ImageLoader x = text(64, texts[i]).made();
            int pointer = x.stack(1);
            Check.same("pointer " + i, pointer, pointer(text.length(), counts[i]));
            Check.same("how many of " + i, x.read(pointer, 4), counts[i]);
            int from = 0;
            for (int k = 0; k < counts[i]; k++) {
                Check.same("address " + k + " of " + i, x.read(pointer + 4 + 4 * k, 4), END - text.length() + from);
                from = text.indexOf('\0', from) + 1;
            }
        }
    }

    private static void highest() {
        Check.sentence("They come, in their order, to the highest addresses, the 0 of the last one to the highest one.");
        String[] texts = {"z", "first\0second\0third", "\u00ff\0\u0080", letters(200) + "\0q"};
        for (String text : texts) {
            ImageLoader x = text(64, text).made();
            x.stack(2);
            int start = END - text.length() - 1;
            for (int i = 0; i < text.length(); i++) {
                Check.same("byte " + i, x.read(start + i, 1), text.charAt(i));
            }
            Check.same("the highest", x.read(END - 1, 1), 0);
            Check.same("below the first", x.read(start - 1, 1), 0);
        }
    }

    private static void multiples() {
        Check.sentence("Below them, at the greatest multiple of 16 at which this does not reach into them");
        for (int letters = 1; letters <= 60; letters++) {
            ImageLoader x = text(64, letters(letters)).made();
            Check.same(letters + " letters", x.stack(1), pointer(letters + 1, 1));
        }
        Check.same("16 bytes of words touch the 16 of an argument", text(64, letters(15)).made().stack(1), END - 32);
        Check.same("one byte more reaches into them", text(64, letters(16)).made().stack(1), END - 48);
        Check.same("one less leaves a gap", text(64, letters(14)).made().stack(1), END - 32);
        for (int count = 1; count <= 40; count++) {
            ImageLoader x = text(64, "\0".repeat(count)).made();
            Check.same(count + " empty ones", x.stack(1), pointer(count, count));
        }
        Check.same("4 empty ones: 28 bytes and 4 are 32", text(64, "\0\0\0\0").made().stack(1), END - 32);
        Check.same("5 empty ones: 32 bytes and 5 are more", text(64, "\0\0\0\0\0").made().stack(1), END - 48);
    }

    private static void words() {
        Check.sentence("the words: how many arguments there are, the address of each in turn, 0, 0");
        for (int count = 0; count <= 20; count++) {
            ImageLoader x = text(64, "ab\0".repeat(count)).made();
            int pointer = x.stack(1);
            Check.same("pointer of " + count, pointer, pointer(3 * count, count));
            Check.same("how many", x.read(pointer, 4), count);
            for (int i = 0; i < count; i++) {
                Check.same("address " + i, x.read(pointer + 4 + 4 * i, 4), END - 3 * count + 3 * i);
            }
            Check.same("a 0", x.read(pointer + 4 + 4 * count, 4), 0);
            Check.same("another 0", x.read(pointer + 8 + 4 * count, 4), 0);
            Check.same("a word below them", pointer == END - 256 ? 0 : x.read(pointer - 4, 4), 0);
        }
    }

    private static void pointerIsMultiple() {
        Check.sentence("this multiple is the STACK POINTER.");
        for (int bytes = 0; bytes <= 200; bytes++) {
            ImageLoader x = text(64, letters(bytes)).made();
            int pointer = x.stack(1);
            int words = 4 * (bytes == 0 ? 3 : 4);
            int texts = bytes == 0 ? END : END - bytes - 1;
            Check.same("a multiple of 16", pointer % 16, 0);
            Check.holds("it does not reach into them", pointer + words <= texts);
            Check.holds("the next one would", pointer + 16 + words > texts);
            Check.same("the words are there", x.read(pointer, 4), bytes == 0 ? 0 : 1);
        }
    }

    private static void sizes() {
        Check.sentence("stack: A STACK of n (1 .. 16) pages");
        int[] bad = {Integer.MIN_VALUE, -16, -1, 0, 17, 18, 64, 65, Integer.MAX_VALUE};
        for (int n : bad) {
            Twin.same("stack(" + n + ")", text(64, "abc"), x -> x.stack(n), BAD);
            Twin.same("stack(" + n + ") of no bytes", Twin.fresh(64), x -> x.stack(n), BAD);
            Twin.same("BAD is asked first", Twin.used(4, TestImage.plain(8)), x -> x.stack(n), BAD);
        }
        int[] sound = {1, 2, 15, 16};
        for (int n : sound) {
            Check.same("stack(" + n + ")", text(64, "abc").made().stack(n), 16352);
            Check.same("stack(" + n + ") of as many frames", text(n, "abc").made().stack(n), 16352);
        }
    }

    /** The text, with one page mapped, to be asked for a stack. */
    private static Twin.State withPage(int page) {
        return () -> {
            ImageLoader x = TestImage.plain(256).on(64);
            Check.same("a page", x.load(256 * page), 0);
            put(x, "abc");
            return x;
        };
    }

    private static void mappedPages() {
        Check.sentence("stack: REFUSED: one of the pages is mapped");
        for (int n = 1; n <= 16; n++) {
            int pages = n;
            Twin.same("the lowest of " + n, withPage(64 - n), x -> x.stack(pages), REFUSED);
            Twin.same("the highest of " + n, withPage(63), x -> x.stack(pages), REFUSED);
            Check.same("one below " + n, withPage(63 - n).made().stack(n), 16352);
        }
        Twin.same("one in the middle", withPage(60), x -> x.stack(8), REFUSED);
        Twin.State noRights = () -> {
            ImageLoader x = withPage(63).made();
            x.protect(63, 0);
            return x;
        };
        Twin.same("it has no rights", noRights, x -> x.stack(1), REFUSED);
        Twin.State stack = () -> {
            ImageLoader x = text(64, "abc").made();
            x.stack(2);
            put(x, "de");
            return x;
        };
        Twin.same("it is a stack", stack, x -> x.stack(1), REFUSED);
        Twin.same("it is a stack", stack, x -> x.stack(16), REFUSED);
        ImageLoader gone = stack.made();
        gone.unmap(63, 1);
        Check.same("its lowest page is there", gone.stack(2), REFUSED);
        Check.same("its highest one is not", gone.stack(1), 16352);
    }

    private static void frames() {
        Check.sentence("stack: there are not so many frames");
        for (int n = 1; n <= 16; n++) {
            int pages = n;
            Check.same(n + " frames", text(n, "abc").made().stack(n), 16352);
            if (n > 1) {
                Twin.same("one less than " + n, text(n - 1, "abc"), x -> x.stack(pages), REFUSED);
            }
            Twin.State left = () -> {
                ImageLoader x = TestImage.plain(512).on(pages + 1);
                Check.same("two pages", x.load(0), 0);
                put(x, "abc");
                return x;
            };
            Twin.same("one less than " + n + " is left", left, x -> x.stack(pages), REFUSED);
            ImageLoader freed = left.made();
            freed.unmap(0, 1);
            Check.same("one is free again", freed.stack(n), 16352);
            Check.same("all are used", freed.count(0), n + 1);
        }
    }

    private static void room() {
        Check.sentence("stack: or what it has wants more room than that.");
        int[][] lettersAndPages = {{239, 1}, {495, 2}, {751, 3}};
        for (int[] row : lettersAndPages) {
            int lowest = END - 256 * row[1];
            Check.same("all room", text(64, letters(row[0])).made().stack(row[1]), lowest);
            Check.same("all room, with the 0", text(64, letters(row[0]) + "\0").made().stack(row[1]), lowest);
            Check.same("one less", text(64, letters(row[0] - 1)).made().stack(row[1]), lowest);
            Twin.same("one more", text(64, letters(row[0] + 1)), x -> x.stack(row[1]), REFUSED);
            Twin.same("one more, with the 0", text(64, letters(row[0] + 1) + "\0"), x -> x.stack(row[1]), REFUSED);
            Check.same("a page more", text(64, letters(row[0] + 1)).made().stack(row[1] + 1), lowest - 16);
        }
        Check.same("900 letters have room in 4", text(64, letters(900)).made().stack(4), pointer(901, 1));
        Twin.same("but not in 3", text(64, letters(900)), x -> x.stack(3), REFUSED);
        for (int n = 1; n <= 16; n++) {
            Check.same("nothing has room", new ImageLoader(64).stack(n), 16368);
        }
    }

    /** A 0 is an argument of its own and wants five bytes, and there are three words more. */
    private static void roomOfMany() {
        Check.sentence("stack: what it has wants more room than that");
        for (int n = 1; n <= 16; n++) {
            int pages = n;
            int most = (256 * n - 12) / 5;
            Check.same("as many as have room in " + n, zeros(most).made().stack(n), pointer(most, most));
            Twin.same("one more than in " + n, zeros(most + 1), x -> x.stack(pages), REFUSED);
        }
        Twin.same("900 have no room at all", zeros(900), x -> x.stack(16), REFUSED);
    }

    private static Twin.State zeros(int n) {
        return () -> {
            ImageLoader x = new ImageLoader(64);
            Check.same("zeros", x.zeros(n), n);
            return x;
        };
    }

    private static void tape() {
        Check.sentence("stack: with the tape as arguments, which is empty then: the STACK POINTER");
        String[] texts = {"", "a", "a\0", letters(900)};
        for (String text : texts) {
            ImageLoader x = text(64, text).made();
            Check.holds("pointer", x.stack(4) > 0);
            Check.same("no bytes", x.count(4), 0);
            Check.same("no first byte", x.peek(0), NONE);
            Check.same("nothing to cut", x.cut(1), BAD);
            Check.same("no image", x.load(0), -11);
            Check.same("room for 900", x.zeros(900), 900);
        }
    }
}
