/**
 * A loader of images in the 32-bit executable and linking format, into a space of pages with
 * rights and a limited number of frames. The document's promises say what each call answers.
 */
public final class ImageLoader {

    public static final int NONE = -1;
    public static final int BAD = -2;
    public static final int REFUSED = -3;

    private static final int PAGES = 64;
    private static final int PAGE_BYTES = 256;
    private static final int ADDRESSES = 16384;
    private static final int TAPE_LIMIT = 900;
    private static final int HIGHEST_BASE = 16128;
    private static final int STACK_PAGES_LIMIT = 16;

    private static final int TO_FETCH = 1;
    private static final int TO_WRITE = 2;
    private static final int TO_READ = 4;
    private static final int ALL_RIGHTS = 7;

    private static final int NO_FAULT = 0;

    // What read, write and fetch answer when they cannot be done.
    private static final int ALLOWED = 0;
    private static final int NOT_MAPPED = -1;
    private static final int NO_RIGHT = -2;
    private static final int NO_MULTIPLE = -3;
    private static final int NO_SIZE = -4;

    private final Tape tape;
    private final Space space;
    private final Image image;
    private int faultPlace;
    private int latestEntry;
    private int latestPages;
    private int latestBase;
    private int imagesLoaded;

    public ImageLoader(int frames) {
        tape = new Tape();
        space = new Space(Math.max(1, Math.min(PAGES, frames)));
        image = new Image();
        faultPlace = NONE;
        latestEntry = NONE;
        latestPages = NONE;
        latestBase = NONE;
        imagesLoaded = 0;
    }

    public int add(long w, int n) {
        if (n < 1 || n > 8) {
            return BAD;
        }
        if (!tape.hasRoomFor(n)) {
            return REFUSED;
        }
        for (int i = 0; i < n; i++) {
            tape.append((int) (w >>> (8 * i)));
        }
        return tape.size();
    }

    public int zeros(int n) {
        if (n < 1 || n > TAPE_LIMIT) {
            return BAD;
        }
        if (!tape.hasRoomFor(n)) {
            return REFUSED;
        }
        for (int i = 0; i < n; i++) {
            tape.append(0);
        }
        return tape.size();
    }

    public int poke(int place, int n, int v) {
        if (!isSize(n) || !tape.has(place, n)) {
            return BAD;
        }
        for (int i = 0; i < n; i++) {
            tape.setByte(place + i, v >>> (8 * i));
        }
        return 0;
    }

    public int peek(int i) {
        return tape.has(i, 1) ? tape.byteAt(i) : NONE;
    }

    public int cut(int n) {
        int before = tape.size();
        if (n < 0 || n > before) {
            return BAD;
        }
        tape.shorten(n);
        return before - n;
    }

    public int load(int base) {
        if (base < 0 || base > HIGHEST_BASE || base % PAGE_BYTES != 0) {
            return BAD;
        }
        int fault = image.bring(tape, space, base);
        if (fault != NO_FAULT) {
            faultPlace = image.faultPlace();
            return -10 - fault;
        }
        faultPlace = NONE;
        latestEntry = image.entry();
        latestPages = image.pagesWanted();
        latestBase = image.base();
        imagesLoaded++;
        return image.relocationCount();
    }

    public int told(int what) {
        switch (what) {
            case 0:
                return faultPlace;
            case 1:
                return latestEntry;
            case 2:
                return latestPages;
            case 3:
                return latestBase;
            default:
                return BAD;
        }
    }

    public int stack(int n) {
        if (n < 1 || n > STACK_PAGES_LIMIT) {
            return BAD;
        }
        int lowest = PAGES - n;
        if (space.anyMapped(lowest, PAGES - 1) || n > space.freeFrames()) {
            return REFUSED;
        }
        int pointer = stackPointer();
        if (pointer < lowest * PAGE_BYTES) {
            return REFUSED;
        }
        space.mapAll(lowest, PAGES - 1, TO_READ | TO_WRITE);
        layArguments(pointer);
        tape.shorten(0);
        return pointer;
    }

    public long read(int address, int n) {
        int refusal = space.refusal(address, n, TO_READ);
        return refusal == ALLOWED ? space.number(address, n) : refusal;
    }

    public int write(int address, int n, int v) {
        int refusal = space.refusal(address, n, TO_WRITE);
        if (refusal == ALLOWED) {
            space.setNumber(address, n, v);
        }
        return refusal;
    }

    public long fetch(int address) {
        int refusal = space.refusal(address, 4, TO_FETCH);
        return refusal == ALLOWED ? space.number(address, 4) : refusal;
    }

    public int protect(int page, int rights) {
        if (!isPage(page) || rights < 0 || rights > ALL_RIGHTS) {
            return BAD;
        }
        int before = space.rightsOf(page);
        if (before == NONE) {
            return REFUSED;
        }
        space.setRights(page, rights);
        return before;
    }

    public int unmap(int page, int n) {
        if (n < 1 || !arePages(page, n)) {
            return BAD;
        }
        int before = space.mappedPages();
        space.releaseAll(page, page + n - 1);
        return before - space.mappedPages();
    }

    public int rights(int page) {
        return isPage(page) ? space.rightsOf(page) : BAD;
    }

    public int count(int what) {
        switch (what) {
            case 0:
                return space.mappedPages();
            case 1:
                return space.pagesWith(TO_FETCH);
            case 2:
                return space.pagesWith(TO_WRITE);
            case 3:
                return space.pagesWith(TO_READ);
            case 4:
                return tape.size();
            case 5:
                return imagesLoaded;
            case 6:
                return space.frames();
            default:
                return BAD;
        }
    }

    public int sum(int page, int n) {
        if (!arePages(page, n)) {
            return 0;
        }
        int s = 7;
        for (int i = 0; i < n; i++) {
            s = space.sumOn(s, page + i);
        }
        return s;
    }

    private int stackPointer() {
        int words = argumentCount() + 3;
        int top = ADDRESSES - argumentBytes() - 4 * words;
        return top - Math.floorMod(top, 16);
    }

    private int argumentBytes() {
        return tape.size() + (tape.lacksLastZero() ? 1 : 0);
    }

    private int argumentCount() {
        int ends = tape.lacksLastZero() ? 1 : 0;
        for (int i = 0; i < tape.size(); i++) {
            if (tape.byteAt(i) == 0) {
                ends++;
            }
        }
        return ends;
    }

    /** The zeros behind the addresses and behind the last argument are there: the pages are new. */
    private void layArguments(int pointer) {
        int texts = ADDRESSES - argumentBytes();
        int slot = pointer + 4;
        boolean starts = true;
        space.setNumber(pointer, 4, argumentCount());
        for (int i = 0; i < tape.size(); i++) {
            if (starts) {
                space.setNumber(slot, 4, texts + i);
                slot += 4;
            }
            space.setByte(texts + i, tape.byteAt(i));
            starts = tape.byteAt(i) == 0;
        }
    }

    private static boolean isSize(int n) {
        return n == 1 || n == 2 || n == 4;
    }

    private static boolean isPage(int page) {
        return page >= 0 && page < PAGES;
    }

    /** No pages at all are pages wherever they begin: none of them is missing. */
    private static boolean arePages(int page, int n) {
        return n == 0 || (n > 0 && n <= PAGES && page >= 0 && page <= PAGES - n);
    }

    /** The bytes from which an image is read and arguments are taken. */
    private static final class Tape {
        private final byte[] bytes;
        private int size;

        Tape() {
            bytes = new byte[TAPE_LIMIT];
            size = 0;
        }

        int size() {
            return size;
        }

        boolean hasRoomFor(int n) {
            return n <= TAPE_LIMIT - size;
        }

        /** Takes longs, as words of an image have no sign and their sums must not run over. */
        boolean has(long place, long n) {
            return place >= 0 && n >= 0 && place + n <= size;
        }

        void append(int v) {
            if (size < bytes.length) {
                bytes[size] = (byte) v;
                size++;
            }
        }

        void setByte(int place, int v) {
            if (place >= 0 && place < size) {
                bytes[place] = (byte) v;
            }
        }

        int byteAt(int place) {
            return place >= 0 && place < size ? bytes[place] & 255 : 0;
        }

        int half(int place) {
            return byteAt(place) | byteAt(place + 1) << 8;
        }

        long word(int place) {
            int bits = byteAt(place) | byteAt(place + 1) << 8
                | byteAt(place + 2) << 16 | byteAt(place + 3) << 24;
            return bits & 0xFFFFFFFFL;
        }

        boolean lacksLastZero() {
            return size > 0 && byteAt(size - 1) != 0;
        }

        void shorten(int n) {
            if (n >= 0 && n < size) {
                size = n;
            }
        }
    }

    /** The pages, their rights and bytes, and how many of them may be mapped at a time. */
    private static final class Space {
        private final byte[] bytes;
        private final int[] pageRights;
        private final int frames;
        private int mapped;

        Space(int frames) {
            this.frames = frames;
            bytes = new byte[ADDRESSES];
            pageRights = new int[PAGES];
            for (int page = 0; page < PAGES; page++) {
                pageRights[page] = NONE;
            }
            mapped = 0;
        }

        int frames() {
            return frames;
        }

        int mappedPages() {
            return mapped;
        }

        int freeFrames() {
            return frames - mapped;
        }

        int rightsOf(int page) {
            return isPage(page) ? pageRights[page] : NONE;
        }

        void setRights(int page, int to) {
            if (isPage(page)) {
                pageRights[page] = to;
            }
        }

        boolean anyMapped(int first, int last) {
            for (int page = first; page <= last; page++) {
                if (rightsOf(page) != NONE) {
                    return true;
                }
            }
            return false;
        }

        int pagesWith(int right) {
            int found = 0;
            for (int page = 0; page < PAGES; page++) {
                int has = rightsOf(page);
                if (has != NONE && (has & right) != 0) {
                    found++;
                }
            }
            return found;
        }

        void mapAll(int first, int last, int to) {
            for (int page = first; page <= last; page++) {
                if (isPage(page) && rightsOf(page) == NONE) {
                    setRights(page, to);
                    mapped++;
                    clear(page);
                }
            }
        }

        private void clear(int page) {
            for (int i = 0; i < PAGE_BYTES; i++) {
                setByte(page * PAGE_BYTES + i, 0);
            }
        }

        void releaseAll(int first, int last) {
            for (int page = first; page <= last; page++) {
                if (rightsOf(page) != NONE) {
                    setRights(page, NONE);
                    mapped--;
                }
            }
        }

        /** A number at a multiple of its size lies in one page, so one page is asked alone. */
        int refusal(int address, int n, int right) {
            if (!isSize(n)) {
                return NO_SIZE;
            }
            if ((address & (n - 1)) != 0) {
                return NO_MULTIPLE;
            }
            int has = rightsOf(Math.floorDiv(address, PAGE_BYTES));
            if (has == NONE) {
                return NOT_MAPPED;
            }
            return (has & right) != 0 ? ALLOWED : NO_RIGHT;
        }

        int byteAt(int address) {
            return address >= 0 && address < bytes.length ? bytes[address] & 255 : 0;
        }

        void setByte(int address, int v) {
            if (address >= 0 && address < bytes.length) {
                bytes[address] = (byte) v;
            }
        }

        long number(int address, int n) {
            long value = 0;
            for (int i = 0; i < n; i++) {
                value |= (long) byteAt(address + i) << (8 * i);
            }
            return value;
        }

        void setNumber(int address, int n, int v) {
            for (int i = 0; i < n; i++) {
                setByte(address + i, v >>> (8 * i));
            }
        }

        int sumOn(int start, int page) {
            boolean there = rightsOf(page) != NONE;
            int s = start;
            for (int i = 0; i < PAGE_BYTES; i++) {
                s = 31 * s + (there ? byteAt(page * PAGE_BYTES + i) : 1000);
            }
            return s;
        }
    }

    /** A head of kind 1. Its words are longs, as they have no sign. */
    private static final class Segment {
        private long offset;
        private long address;
        private long start;
        private long filed;
        private long held;
        private long align;
        private int flags;

        void take(Tape tape, int t, int base) {
            offset = tape.word(t + 4);
            address = tape.word(t + 8);
            start = address + base;
            filed = tape.word(t + 16);
            held = tape.word(t + 20);
            flags = (int) tape.word(t + 24) & ALL_RIGHTS;
            align = tape.word(t + 28);
        }

        boolean isAlignSound() {
            return align <= 1 || (align <= 4096 && Long.bitCount(align) == 1);
        }

        boolean isAligned() {
            return align <= 1 || address % align == offset % align;
        }

        boolean isInSpace() {
            return held == 0 || start + held <= ADDRESSES;
        }

        boolean holds(long place) {
            return place >= start && place < start + held;
        }

        /** Asked only of a segment in the space; one without held bytes ends before all pages. */
        int firstPage() {
            return held == 0 ? 0 : (int) (start / PAGE_BYTES);
        }

        int lastPage() {
            return held == 0 ? -1 : (int) ((start + held - 1) / PAGE_BYTES);
        }

        int pages() {
            return lastPage() - firstPage() + 1;
        }

        boolean sharesPageWith(Segment other) {
            return firstPage() <= other.lastPage() && other.firstPage() <= lastPage();
        }

        void lay(Tape tape, Space space) {
            space.mapAll(firstPage(), lastPage(), flags);
            int bytes = (int) Math.min(filed, TAPE_LIMIT);
            for (int i = 0; i < bytes; i++) {
                space.setByte((int) start + i, tape.byteAt((int) offset + i));
            }
        }
    }

    /**
     * What one load reads of the tape. The numbers and places of faults are the document's; the
     * object is used again for every load.
     */
    private static final class Image {
        private static final int HEADER_BYTES = 52;
        private static final int HEAD_BYTES = 32;
        private static final int HEADS_LIMIT = 8;
        private static final int SORT_FIXED = 2;
        private static final int SORT_MOVABLE = 3;
        private static final int KIND_SEGMENT = 1;
        private static final int KIND_DYNAMIC = 2;
        private static final int RELOCATION_BYTES = 12;
        private static final int RELOCATIONS_LIMIT = 60;
        private static final int SYMBOL_BYTES = 16;
        private static final int[] MAGIC = {127, 69, 76, 70, 1, 1, 1};

        private final Segment[] segments;
        private int segmentCount;
        private int faultPlace;
        private int base;
        private int entry;
        private int pagesWanted;
        private int dynamicHead;
        private long relocations;
        private long relocationsBytes;
        private long relocationBytes;
        private long symbols;
        private long symbolBytes;
        private int relocationCount;

        Image() {
            segments = new Segment[HEADS_LIMIT];
            for (int i = 0; i < HEADS_LIMIT; i++) {
                segments[i] = new Segment();
            }
            forget();
        }

        int faultPlace() {
            return faultPlace;
        }

        int base() {
            return base;
        }

        int entry() {
            return entry;
        }

        int pagesWanted() {
            return pagesWanted;
        }

        int relocationCount() {
            return relocationCount;
        }

        /** The fault of the tape as an image, which is laid if it has none. */
        int bring(Tape tape, Space space, int wantedBase) {
            forget();
            int fault = headerFault(tape);
            if (fault != NO_FAULT) {
                return fault;
            }
            base = tape.half(16) == SORT_FIXED ? 0 : wantedBase;
            fault = headsFault(tape, space);
            if (fault == NO_FAULT) {
                fault = entryFault(tape);
            }
            if (fault == NO_FAULT) {
                fault = dynamicFault(tape);
            }
            if (fault != NO_FAULT) {
                return fault;
            }
            lay(tape, space);
            fault = relocationsFault(space);
            if (fault != NO_FAULT) {
                takeBack(space);
            }
            return fault;
        }

        private void forget() {
            segmentCount = 0;
            faultPlace = NONE;
            base = 0;
            entry = NONE;
            pagesWanted = 0;
            dynamicHead = NONE;
            relocations = 0;
            relocationsBytes = 0;
            relocationBytes = 0;
            symbols = 0;
            symbolBytes = 0;
            relocationCount = 0;
        }

        private int fault(int number, int place) {
            faultPlace = place;
            return number;
        }

        private int headerFault(Tape tape) {
            if (tape.size() < HEADER_BYTES) {
                return fault(1, tape.size());
            }
            for (int i = 0; i < MAGIC.length; i++) {
                if (tape.byteAt(i) != MAGIC[i]) {
                    return fault(2, i);
                }
            }
            int sort = tape.half(16);
            if (sort != SORT_FIXED && sort != SORT_MOVABLE) {
                return fault(3, 16);
            }
            if (tape.half(18) != 243) {
                return fault(4, 18);
            }
            if (tape.word(20) != 1) {
                return fault(5, 20);
            }
            if (tape.half(40) != HEADER_BYTES) {
                return fault(6, 40);
            }
            if (tape.half(42) != HEAD_BYTES) {
                return fault(6, 42);
            }
            int heads = tape.half(44);
            if (heads < 1 || heads > HEADS_LIMIT) {
                return fault(7, 44);
            }
            return tape.has(tape.word(28), HEAD_BYTES * heads) ? NO_FAULT : fault(8, 28);
        }

        private int headsFault(Tape tape, Space space) {
            int heads = Math.min(tape.half(44), HEADS_LIMIT);
            int table = (int) tape.word(28);
            for (int i = 0; i < heads; i++) {
                int t = table + HEAD_BYTES * i;
                long kind = tape.word(t);
                int fault = NO_FAULT;
                if (kind == KIND_SEGMENT) {
                    fault = segmentFault(tape, space, t);
                } else if (kind == KIND_DYNAMIC) {
                    fault = dynamicHeadFault(tape, t);
                }
                if (fault != NO_FAULT) {
                    return fault;
                }
            }
            return pagesWanted > 0 ? NO_FAULT : fault(17, 44);
        }

        private int segmentFault(Tape tape, Space space, int t) {
            if (segmentCount < 0 || segmentCount >= segments.length) {
                return fault(7, 44);
            }
            Segment segment = segments[segmentCount];
            segment.take(tape, t, base);
            if (segment.held < segment.filed) {
                return fault(9, t + 20);
            }
            if (!tape.has(segment.offset, segment.filed)) {
                return fault(10, t + 4);
            }
            if (!segment.isAlignSound()) {
                return fault(11, t + 28);
            }
            if (!segment.isAligned()) {
                return fault(12, t + 8);
            }
            if (!segment.isInSpace()) {
                return fault(13, t + 8);
            }
            if (space.anyMapped(segment.firstPage(), segment.lastPage()) || meetsEarlier(segment)) {
                return fault(14, t + 8);
            }
            if (pagesWanted + segment.pages() > space.freeFrames()) {
                return fault(15, t + 20);
            }
            pagesWanted += segment.pages();
            segmentCount++;
            return NO_FAULT;
        }

        private boolean meetsEarlier(Segment segment) {
            for (int i = 0; i < segmentCount && i < segments.length; i++) {
                if (segment.sharesPageWith(segments[i])) {
                    return true;
                }
            }
            return false;
        }

        private int dynamicHeadFault(Tape tape, int t) {
            long filed = tape.word(t + 16);
            if (!tape.has(tape.word(t + 4), filed)) {
                return fault(10, t + 4);
            }
            if (filed % 8 != 0) {
                return fault(16, t + 16);
            }
            dynamicHead = t;
            return NO_FAULT;
        }

        private int entryFault(Tape tape) {
            long place = tape.word(24) + base;
            for (int i = 0; i < segmentCount && i < segments.length; i++) {
                Segment segment = segments[i];
                if (segment.holds(place) && (segment.flags & TO_FETCH) != 0) {
                    entry = (int) place;
                    return NO_FAULT;
                }
            }
            return fault(18, 24);
        }

        private int dynamicFault(Tape tape) {
            if (dynamicHead == NONE) {
                return NO_FAULT;
            }
            takeDynamicPairs(tape);
            boolean sound = relocationsBytes % RELOCATION_BYTES == 0
                && relocationsBytes / RELOCATION_BYTES <= RELOCATIONS_LIMIT
                && (relocationsBytes == 0 || relocationBytes == RELOCATION_BYTES);
            if (!sound) {
                return fault(19, dynamicHead);
            }
            relocationCount = (int) (relocationsBytes / RELOCATION_BYTES);
            return NO_FAULT;
        }

        private void takeDynamicPairs(Tape tape) {
            int from = (int) tape.word(dynamicHead + 4);
            int pairs = (int) (tape.word(dynamicHead + 16) / 8);
            for (int i = 0; i < pairs; i++) {
                long key = tape.word(from + 8 * i);
                if (key == 0) {
                    return;
                }
                takeDynamicPair(key, tape.word(from + 8 * i + 4));
            }
        }

        private void takeDynamicPair(long key, long value) {
            if (key == 7) {
                relocations = value;
            } else if (key == 8) {
                relocationsBytes = value;
            } else if (key == 9) {
                relocationBytes = value;
            } else if (key == 6) {
                symbols = value;
            } else if (key == 11) {
                symbolBytes = value;
            }
        }

        private void lay(Tape tape, Space space) {
            for (int i = 0; i < segmentCount && i < segments.length; i++) {
                segments[i].lay(tape, space);
            }
        }

        /** All pages of the image were not mapped before, so this leaves all as it was. */
        private void takeBack(Space space) {
            for (int i = 0; i < segmentCount && i < segments.length; i++) {
                space.releaseAll(segments[i].firstPage(), segments[i].lastPage());
            }
        }

        private int relocationsFault(Space space) {
            for (int i = 0; i < relocationCount; i++) {
                int fault = relocationFault(space, i);
                if (fault != NO_FAULT) {
                    return fault(fault, i);
                }
            }
            return NO_FAULT;
        }

        /** Addresses are ints here, as they run over in 32 bits; one below 0 is held by none. */
        private int relocationFault(Space space, int i) {
            int at = (int) relocations + base + RELOCATION_BYTES * i;
            if (!areHeld(at, RELOCATION_BYTES)) {
                return 20;
            }
            int where = (int) space.number(at, 4) + base;
            int what = (int) space.number(at + 4, 4);
            int more = (int) space.number(at + 8, 4);
            if (!areHeld(where, 4)) {
                return 20;
            }
            switch (what & 255) {
                case 0:
                    return NO_FAULT;
                case 1:
                    return symbolFault(space, where, what >>> 8, more);
                case 3:
                    space.setNumber(where, 4, base + more);
                    return NO_FAULT;
                default:
                    return 21;
            }
        }

        private int symbolFault(Space space, int where, int number, int more) {
            int at = (int) symbols + base + SYMBOL_BYTES * number;
            if (symbolBytes != SYMBOL_BYTES || !areHeld(at, SYMBOL_BYTES)) {
                return 22;
            }
            if (number != 0 && space.number(at + 14, 2) == 0) {
                return 23;
            }
            int value = number == 0 ? 0 : (int) space.number(at + 4, 4) + base;
            space.setNumber(where, 4, more + value);
            return NO_FAULT;
        }

        /** No two segments share a page, so no byte is counted twice. */
        private boolean areHeld(int address, int n) {
            int found = 0;
            for (int i = 0; i < segmentCount && i < segments.length; i++) {
                for (int k = 0; k < n; k++) {
                    if (segments[i].holds(address + k)) {
                        found++;
                    }
                }
            }
            return found == n;
        }
    }
}
