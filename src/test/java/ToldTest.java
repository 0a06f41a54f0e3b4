/** Promise 8: told. */
public final class ToldTest {
    public static void main(String[] args) {
        ImageLoader x = new ImageLoader(64);
        int[] bad = {-1, 4, 5, Integer.MIN_VALUE, Integer.MAX_VALUE};
        for (int what : bad) {
            Check.same("told(" + what + ")", x.told(what), ImageLoader.BAD);
        }
        tells(x, -1, -1, -1, -1);
        Check.same("an empty tape", x.load(0), -11);
        tells(x, 0, -1, -1, -1);
        Check.same("a BAD one", x.load(3), ImageLoader.BAD);
        tells(x, 0, -1, -1, -1);
        TestImage.plain(600).word(24, 5).onto(x);
        Check.same("a sound one", x.load(1024), 0);
        tells(x, -1, 1029, 3, 1024);
        Check.same("a BAD one", x.load(3), ImageLoader.BAD);
        tells(x, -1, 1029, 3, 1024);
        Check.same("a faulty one", x.load(1280), -24);
        tells(x, 60, 1029, 3, 1024);
        Check.same("a BAD one", x.load(-256), ImageLoader.BAD);
        tells(x, 60, 1029, 3, 1024);
        Check.same("another one", x.load(4096), 0);
        tells(x, -1, 4101, 3, 4096);
        Check.same("pages go", x.unmap(0, 64), 6);
        tells(x, -1, 4101, 3, 4096);
        TestImage.plain(10).half(16, 2).onto(x);
        Check.same("one of sort 2", x.load(4096), 0);
        tells(x, -1, 0, 1, 0);
        x.cut(20);
        Check.same("a short one", x.load(0), -11);
        tells(x, 20, 0, 1, 0);
        Check.same("a stack changes nothing", x.stack(1) > 0 ? 1 : 0, 1);
        tells(x, 20, 0, 1, 0);
        Check.end();
    }

    private static void tells(ImageLoader x, int place, int entry, int pages, int base) {
        Check.same("the fault's place", x.told(0), place);
        Check.same("the entry", x.told(1), entry);
        Check.same("the pages", x.told(2), pages);
        Check.same("the base", x.told(3), base);
    }
}
