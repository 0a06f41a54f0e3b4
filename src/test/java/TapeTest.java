/** Promises 1 to 6: a new object, add, zeros, poke, peek, cut. */
public final class TapeTest {
    private static final int[] ENDS = {Integer.MIN_VALUE, Integer.MIN_VALUE + 1, Integer.MAX_VALUE - 1, Integer.MAX_VALUE};

    public static void main(String[] args) {
        newObject();
        add();
        zeros();
        poke();
        peek();
        cut();
        Check.end();
    }

    private static void newObject() {
        int[][] framesAndDue = {{1, 1}, {2, 2}, {63, 63}, {64, 64}, {65, 64}, {0, 1}, {-1, 1},
            {Integer.MAX_VALUE, 64}, {Integer.MIN_VALUE, 1}};
        for (int[] row : framesAndDue) {
            ImageLoader x = new ImageLoader(row[0]);
            Check.same("frames of " + row[0], x.count(6), row[1]);
            Check.same("a new tape", x.count(4), 0);
            Check.same("a new space", x.count(0), 0);
            Check.same("images", x.count(5), 0);
            for (int what = 0; what < 4; what++) {
                Check.same("told(" + what + ")", x.told(what), ImageLoader.NONE);
            }
            for (int page = 0; page < 64; page++) {
                Check.same("rights of a new page", x.rights(page), ImageLoader.NONE);
            }
        }
    }

    private static void add() {
        ImageLoader x = new ImageLoader(4);
        Check.same("add of 1", x.add(0xFFL, 1), 1);
        Check.same("add of 8", x.add(0x8877665544332211L, 8), 9);
        Check.same("add of 3", x.add(-2, 3), 12);
        int[] due = {255, 0x11, 0x22, 0x33, 0x44, 0x55, 0x66, 0x77, 0x88, 254, 255, 255};
        for (int i = 0; i < due.length; i++) {
            Check.same("peek(" + i + ")", x.peek(i), due[i]);
        }
        Check.same("add of 0", x.add(1, 0), ImageLoader.BAD);
        Check.same("add of 9", x.add(1, 9), ImageLoader.BAD);
        Check.same("add of -1", x.add(1, -1), ImageLoader.BAD);
        for (int n : ENDS) {
            Check.same("add of " + n, x.add(1, n), ImageLoader.BAD);
        }
        Check.same("nothing came", x.count(4), 12);
        Check.same("up to 893", x.zeros(881), 893);
        Check.same("over 900", x.add(5, 8), ImageLoader.REFUSED);
        Check.same("BAD comes before REFUSED", x.add(5, 9), ImageLoader.BAD);
        Check.same("nothing came again", x.count(4), 893);
        Check.same("up to 900", x.add(0x07000000000005L, 7), 900);
        Check.same("the last byte", x.peek(899), 7);
        Check.same("one too many", x.add(5, 1), ImageLoader.REFUSED);
        Check.same("BAD on a full tape", x.add(5, 0), ImageLoader.BAD);
    }

    private static void zeros() {
        ImageLoader x = new ImageLoader(4);
        Check.same("add", x.add(-1, 8), 8);
        Check.same("cut", x.cut(2), 6);
        Check.same("zeros(5)", x.zeros(5), 7);
        int[] due = {255, 255, 0, 0, 0, 0, 0};
        for (int i = 0; i < due.length; i++) {
            Check.same("zeros where others were, " + i, x.peek(i), due[i]);
        }
        Check.same("zeros(0)", x.zeros(0), ImageLoader.BAD);
        Check.same("zeros(-1)", x.zeros(-1), ImageLoader.BAD);
        Check.same("zeros(901)", x.zeros(901), ImageLoader.BAD);
        for (int n : ENDS) {
            Check.same("zeros of " + n, x.zeros(n), ImageLoader.BAD);
        }
        Check.same("zeros(900)", x.zeros(900), ImageLoader.REFUSED);
        Check.same("zeros(894)", x.zeros(894), ImageLoader.REFUSED);
        Check.same("nothing came", x.count(4), 7);
        Check.same("zeros(893)", x.zeros(893), 900);
        Check.same("zeros(1) on a full tape", x.zeros(1), ImageLoader.REFUSED);
        Check.same("cut(0)", x.cut(0), 900);
        Check.same("zeros(900) on an empty tape", x.zeros(900), 900);
        Check.same("zeros(1)", x.zeros(1), ImageLoader.REFUSED);
    }

    private static void poke() {
        ImageLoader x = new ImageLoader(4);
        x.zeros(8);
        Check.same("poke of 4", x.poke(1, 4, 0x84838281), 0);
        Check.same("poke of 2", x.poke(5, 2, 0x99998685), 0);
        Check.same("poke of 1", x.poke(7, 1, 0x99999987), 0);
        int[] due = {0, 0x81, 0x82, 0x83, 0x84, 0x85, 0x86, 0x87};
        for (int i = 0; i < due.length; i++) {
            Check.same("poked byte " + i, x.peek(i), due[i]);
        }
        int[] sizes = {-1, 0, 3, 5, 8, Integer.MIN_VALUE, Integer.MAX_VALUE};
        for (int n : sizes) {
            Check.same("poke of " + n, x.poke(0, n, 1), ImageLoader.BAD);
        }
        int[][] outside = {{-1, 1}, {8, 1}, {7, 2}, {-1, 2}, {5, 4}, {6, 4}, {7, 4}, {-4, 4}};
        for (int[] row : outside) {
            Check.same("poke at " + row[0], x.poke(row[0], row[1], 1), ImageLoader.BAD);
        }
        for (int place : ENDS) {
            Check.same("poke at " + place, x.poke(place, 4, 1), ImageLoader.BAD);
            Check.same("poke at " + place, x.poke(place, 1, 1), ImageLoader.BAD);
        }
        for (int i = 0; i < due.length; i++) {
            Check.same("byte " + i + " after the BAD ones", x.peek(i), due[i]);
        }
        int[][] middle = {{0, 1}, {0, 2}, {0, 4}, {2, 1}, {2, 2}, {3, 4}};
        for (int[] row : middle) {
            ImageLoader y = new ImageLoader(4);
            y.add(-1, 8);
            Check.same("poke of " + row[1] + " at " + row[0], y.poke(row[0], row[1], 0), 0);
            for (int i = 0; i < 8; i++) {
                Check.same("byte " + i, y.peek(i), i >= row[0] && i < row[0] + row[1] ? 0 : 255);
            }
        }
        Check.same("poke to the end", x.poke(4, 4, 0), 0);
        Check.same("poke leaves the size", x.count(4), 8);
        x.cut(6);
        Check.same("poke behind a cut", x.poke(6, 1, 1), ImageLoader.BAD);
        Check.same("poke over a cut", x.poke(5, 2, 1), ImageLoader.BAD);
    }

    private static void peek() {
        ImageLoader x = new ImageLoader(4);
        Check.same("peek of an empty tape", x.peek(0), ImageLoader.NONE);
        x.add(0xFF80, 2);
        Check.same("peek(0)", x.peek(0), 0x80);
        Check.same("peek(1)", x.peek(1), 0xFF);
        Check.same("peek(2)", x.peek(2), ImageLoader.NONE);
        Check.same("peek(-1)", x.peek(-1), ImageLoader.NONE);
        for (int i : ENDS) {
            Check.same("peek(" + i + ")", x.peek(i), ImageLoader.NONE);
        }
        x.cut(1);
        Check.same("peek behind a cut", x.peek(1), ImageLoader.NONE);
        x.zeros(899);
        Check.same("peek(899)", x.peek(899), 0);
        Check.same("peek(900)", x.peek(900), ImageLoader.NONE);
    }

    private static void cut() {
        ImageLoader x = new ImageLoader(4);
        Check.same("cut of an empty tape", x.cut(0), 0);
        Check.same("cut(1) of an empty tape", x.cut(1), ImageLoader.BAD);
        x.add(0x0807060504030201L, 8);
        Check.same("cut(9)", x.cut(9), ImageLoader.BAD);
        Check.same("cut(-1)", x.cut(-1), ImageLoader.BAD);
        for (int n : ENDS) {
            Check.same("cut(" + n + ")", x.cut(n), ImageLoader.BAD);
        }
        Check.same("nothing went", x.count(4), 8);
        Check.same("cut(8)", x.cut(8), 0);
        Check.same("cut(3)", x.cut(3), 5);
        Check.same("three are left", x.count(4), 3);
        Check.same("the first ones", x.peek(2), 3);
        Check.same("no more", x.peek(3), ImageLoader.NONE);
        Check.same("behind a cut", x.add(9, 1), 4);
        Check.same("the new one", x.peek(3), 9);
        Check.same("cut(0)", x.cut(0), 4);
        Check.same("empty", x.count(4), 0);
    }
}
