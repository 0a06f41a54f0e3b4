/**
 * Two objects with the same calls behind them, of which one is given a call more that must leave
 * all as it was: what later calls answer is compared. An object has 512 calls at most, so every
 * probe has a pair of objects of its own.
 */
final class Twin {
    interface State {
        ImageLoader made();
    }

    interface Call {
        long on(ImageLoader x);
    }

    private interface Probe {
        void of(ImageLoader x, Answers answers);
    }

    private static final class Answers {
        private final long[] all = new long[512];
        private int count = 0;

        void add(long answer) {
            all[count] = answer;
            count++;
        }
    }

    private static final Probe[] PROBES = {
        Twin::counts, Twin::pages, Twin::firstBytes, Twin::middleBytes, Twin::lastBytes, Twin::loads,
        Twin::growth, Twin::stacks, Twin::accesses, Twin::changes};

    private Twin() {
    }

    static State fresh(int frames) {
        return () -> new ImageLoader(frames);
    }

    static State fresh(int frames, TestImage tape) {
        return () -> tape.on(frames);
    }

    /**
     * Pages 40 to 42 are three segments of an image, with rights of all sorts, page 63 is a stack,
     * a load was faulty at place 60. Four frames are used.
     */
    static State used(int frames, TestImage tape) {
        return () -> {
            ImageLoader x = three().on(frames);
            Check.same("the image that is there", x.load(10240), 0);
            x.write(10500, 4, 0x81828384);
            Check.same("it again", x.load(10240), -24);
            x.protect(41, 3);
            x.protect(42, 0);
            x.cut(0);
            x.add('a', 1);
            Check.same("the stack that is there", x.stack(1), 16352);
            tape.onto(x);
            return x;
        };
    }

    private static TestImage three() {
        TestImage image = new TestImage(3, 0, 3, 156).words(148, 0x11223344, 0x55667788);
        image.head(0, 1, 148, 0, 8, 256, 7, 1).head(1, 1, 0, 256, 0, 256, 7, 1);
        return image.head(2, 1, 0, 512, 0, 88, 7, 1);
    }

    /** A call that is BAD or REFUSED, or one that only tells. */
    static void same(String what, State state, Call call, long due) {
        for (int i = 0; i < PROBES.length; i++) {
            ImageLoader called = state.made();
            Check.same(what, call.on(called), due);
            compare(what, called, state.made(), i);
        }
        ImageLoader called = state.made();
        call.on(called);
        Check.same(what + ": told(0) stays", called.told(0), state.made().told(0));
    }

    /** A faulty load changes the answer of told(0), and nothing else. */
    static void faulty(String what, State state, int base, int fault, int place) {
        for (int i = 0; i < PROBES.length; i++) {
            ImageLoader called = state.made();
            Check.same(what + ": load(" + base + ")", called.load(base), -10 - fault);
            Check.same(what + ": told(0)", called.told(0), place);
            compare(what, called, state.made(), i);
        }
    }

    private static void compare(String what, ImageLoader called, ImageLoader other, int probe) {
        Answers got = new Answers();
        Answers due = new Answers();
        PROBES[probe].of(called, got);
        PROBES[probe].of(other, due);
        Check.same(what + ": answers", got.count, due.count);
        for (int i = 0; i < due.count; i++) {
            Check.same(what + ": later answer " + i + " of probe " + probe, got.all[i], due.all[i]);
        }
    }

    private static void counts(ImageLoader x, Answers answers) {
        for (int what = 0; what <= 6; what++) {
            answers.add(x.count(what));
        }
        for (int what = 1; what <= 3; what++) {
            answers.add(x.told(what));
        }
        answers.add(x.sum(0, 64));
    }

    private static void pages(ImageLoader x, Answers answers) {
        for (int page = 0; page < 64; page++) {
            answers.add(x.rights(page));
            answers.add(x.sum(page, 1));
        }
    }

    private static void bytes(ImageLoader x, Answers answers, int from) {
        for (int i = from; i < from + 300; i++) {
            answers.add(x.peek(i));
        }
    }

    private static void firstBytes(ImageLoader x, Answers answers) {
        bytes(x, answers, 0);
    }

    private static void middleBytes(ImageLoader x, Answers answers) {
        bytes(x, answers, 300);
    }

    private static void lastBytes(ImageLoader x, Answers answers) {
        bytes(x, answers, 600);
    }

    private static void loads(ImageLoader x, Answers answers) {
        for (int base = 0; base <= 16128; base += 1024) {
            answers.add(x.load(base));
            for (int what = 0; what <= 3; what++) {
                answers.add(x.told(what));
            }
            answers.add(x.sum(0, 64));
        }
        answers.add(x.count(5));
    }

    private static void growth(ImageLoader x, Answers answers) {
        answers.add(x.add(0x0102030405060708L, 8));
        answers.add(x.zeros(3));
        for (int n = 512; n >= 1; n /= 2) {
            answers.add(x.zeros(n));
        }
        answers.add(x.cut(0));
        answers.add(x.zeros(900));
        answers.add(x.zeros(1));
    }

    private static void stacks(ImageLoader x, Answers answers) {
        for (int n = 16; n >= 1; n--) {
            answers.add(x.stack(n));
            answers.add(x.count(0));
            answers.add(x.count(4));
            answers.add(x.sum(48, 16));
        }
    }

    private static void accesses(ImageLoader x, Answers answers) {
        for (int page = 0; page < 64; page++) {
            answers.add(x.read(256 * page + 4, 4));
            answers.add(x.fetch(256 * page + 4));
            answers.add(x.write(256 * page + 252, 4, page));
        }
        answers.add(x.sum(0, 64));
    }

    private static void changes(ImageLoader x, Answers answers) {
        for (int page = 0; page < 64; page++) {
            answers.add(x.protect(page, 7 & page));
            answers.add(page % 3 == 0 ? x.unmap(page, 1) : x.rights(page));
        }
        answers.add(x.unmap(0, 64));
        answers.add(x.load(0));
        answers.add(x.stack(2));
        answers.add(x.sum(0, 64));
    }
}
