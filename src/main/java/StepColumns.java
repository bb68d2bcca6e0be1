import java.util.Arrays;

/** Columns of a book set on one grid. */
public final class StepColumns {
    public static final int UNKNOWN = -1, OUTSIDE = -2, STATE = -3, FULL = -4, NONE = -6;

    private static final int TEXT = 0, HEAD = 1, FIGURE = 2;
    private static final int MAX_ITEMS = 12, MAX_LINES = 12, MAX_TALL = 80, MAX_ROOM = 30;
    private static final int MIN_GRID = 3, MAX_GRID = 20, FIRST_GRID = 10;
    private static final int MIN_HIGH = 12, MAX_HIGH = 200, FIRST_HIGH = 120;
    private static final int MAX_THINGS = MAX_ITEMS * MAX_LINES;
    private static final int MAX_FIT = 150;
    private static final int IMAGES = 2;
    private static final int RELIEF_BASE = 1000;
    private static final int NOBODY = -1;

    // A cost is one number, so that a plain comparison weighs columns before lines
    // that are out, and these before room: at most 144 columns, 144 lines, 360 units.
    private static final int COLUMN_COST = 1 << 20, OUT_COST = 1 << 10, NO_LAYING = 1 << 28;

    private final Book book;
    private final Scale scale;
    private final Laying laying;
    private final Book[] images;
    private int keptImages;
    private boolean laid;

    public StepColumns() {
        book = new Book();
        scale = new Scale(book);
        laying = new Laying(book);
        images = new Book[IMAGES];
        for (int k = 0; k < IMAGES; k++) {
            images[k] = new Book();
        }
        keptImages = 0;
        laid = false;
    }

    // ---- 1 items

    public int add(int kind, int size, int least, int most) {
        if (kind < TEXT || kind > FIGURE || !sizeFits(kind, size)) {
            return OUTSIDE;
        }
        if (kind != TEXT && !boundsFit(least, most)) {
            return OUTSIDE;
        }
        if (book.items >= MAX_ITEMS) {
            return FULL;
        }
        laid = false;
        return book.append(kind, size, kind == TEXT ? 0 : least, kind == TEXT ? 0 : most);
    }

    public int change(int item, int what, int n) {
        if (!book.has(item)) {
            return UNKNOWN;
        }
        if (!changeFits(item, what, n)) {
            return OUTSIDE;
        }
        laid = false;
        int before = book.number(item, what);
        book.write(item, what, n);
        return before;
    }

    public int remove(int item) {
        if (!book.has(item)) {
            return UNKNOWN;
        }
        laid = false;
        book.shift(item, book.items - 1);
        book.items--;
        return book.items;
    }

    public int move(int item, int to) {
        if (!book.has(item)) {
            return UNKNOWN;
        }
        if (!book.has(to)) {
            return OUTSIDE;
        }
        laid = false;
        book.shift(item, to);
        return 1;
    }

    public int set(int what, int n) {
        int before;
        if (what == 0 && n >= MIN_GRID && n <= MAX_GRID) {
            before = book.grid;
            book.grid = n;
        } else if (what == 1 && n >= MIN_HIGH && n <= MAX_HIGH) {
            before = book.high;
            book.high = n;
        } else {
            return OUTSIDE;
        }
        laid = false;
        return before;
    }

    public int item(int item, int what) {
        if (!book.has(item)) {
            return UNKNOWN;
        }
        return what < 0 || what > 3 ? OUTSIDE : book.number(item, what);
    }

    // ---- 2 the best

    public int best(int what) {
        if (what < 0 || what > 4) {
            return OUTSIDE;
        }
        return layBest() ? laying.total(what) : NONE;
    }

    public int place(int item, int k, int what) {
        if (!book.has(item)) {
            return UNKNOWN;
        }
        if (what < 0 || what > 3) {
            return OUTSIDE;
        }
        if (k < 0 || k >= book.thingsOf(item) || !layBest()) {
            return NONE;
        }
        return laying.ofThing(book.thingsBefore(item) + k, what);
    }

    public int column(int c, int what) {
        if (what < 0 || what > 4) {
            return OUTSIDE;
        }
        if (!layBest() || c < 0 || c >= laying.columns) {
            return NONE;
        }
        return laying.ofColumn(c, what);
    }

    public int meet(int p) {
        // Half of the columns is looked at, as twice a great p would wrap around.
        if (!layBest() || p < 0 || p >= (laying.columns + 1) / 2) {
            return NONE;
        }
        return laying.meetings(2 * p);
    }

    public int relief(int item) {
        if (!book.has(item)) {
            return UNKNOWN;
        }
        if (book.kind[item] == TEXT) {
            return OUTSIDE;
        }
        return layBest() ? RELIEF_BASE + reliefBy(item) : NONE;
    }

    public int culprit() {
        if (!layBest()) {
            return NONE;
        }
        int found = NONE;
        int most = 0;
        // No relief is greater than the lines that are out, so none is sought beyond that.
        for (int i = 0; i < book.items && most < laying.out; i++) {
            int by = book.kind[i] == TEXT ? 0 : reliefBy(i);
            if (by > most) {
                most = by;
                found = i;
            }
        }
        return found;
    }

    public int fit(int n) {
        if (n < 0 || n > MAX_FIT) {
            return OUTSIDE;
        }
        if (scale.fewestColumns(MAX_HIGH) > n) {
            return NONE;
        }
        // A laying within some height is one within each greater height too, so the
        // heights that serve are all those from the least one on: it is found by halving.
        int high = MAX_HIGH;
        for (int step = 128; step > 0; step /= 2) {
            if (high - step >= MIN_HIGH && scale.fewestColumns(high - step) <= n) {
                high -= step;
            }
        }
        return high;
    }

    // ---- 3 images

    public int image(int k) {
        if (k < 0 || k >= IMAGES) {
            return OUTSIDE;
        }
        images[k].copy(book);
        keptImages |= 1 << k;
        return 1;
    }

    public int restore(int k) {
        if (k < 0 || k >= IMAGES) {
            return OUTSIDE;
        }
        if ((keptImages >> k & 1) == 0) {
            return STATE;
        }
        book.copy(images[k]);
        laid = false;
        return 1;
    }

    public int count(int what) {
        switch (what) {
            case 0: return book.items;
            case 1: return book.thingsBefore(book.items);
            case 2: return book.grid;
            case 3: return book.high;
            case 4: return keptImages;
            case 10: return book.itemsOf(TEXT);
            case 11: return book.itemsOf(HEAD);
            case 12: return book.itemsOf(FIGURE);
            default: return OUTSIDE;
        }
    }

    // ---- what the calls share

    private static boolean sizeFits(int kind, int size) {
        return size >= 1 && size <= (kind == TEXT ? MAX_LINES : MAX_TALL);
    }

    private static boolean boundsFit(int least, int most) {
        return least >= 0 && least <= most && most <= MAX_ROOM;
    }

    private boolean changeFits(int item, int what, int n) {
        if (what == 1) {
            return sizeFits(book.kind[item], n);
        }
        if (book.kind[item] == TEXT) {
            return false;
        }
        if (what == 2) {
            return boundsFit(n, book.most[item]);
        }
        return what == 3 && boundsFit(book.least[item], n);
    }

    /** Lays the book as things are, unless that has been done; tells if there is a laying. */
    private boolean layBest() {
        if (!laid) {
            laying.exists = scale.weigh(NOBODY) < NO_LAYING;
            if (laying.exists) {
                laying.follow(scale);
            }
            laid = true;
        }
        return laying.exists;
    }

    private int reliefBy(int item) {
        if (book.most[item] == MAX_ROOM) {
            return 0;
        }
        int cost = scale.weigh(item);
        return laying.out - cost % COLUMN_COST / OUT_COST;
    }

    /** The items in their order, and the page that they are set on. */
    private static final class Book {
        final int[] kind = new int[MAX_ITEMS];
        final int[] size = new int[MAX_ITEMS];
        final int[] least = new int[MAX_ITEMS];
        final int[] most = new int[MAX_ITEMS];
        int items = 0;
        int grid = FIRST_GRID;
        int high = FIRST_HIGH;

        boolean has(int i) {
            return i >= 0 && i < items;
        }

        int append(int newKind, int newSize, int newLeast, int newMost) {
            int i = items;
            if (i >= MAX_ITEMS) {
                return FULL;
            }
            kind[i] = newKind;
            size[i] = newSize;
            least[i] = newLeast;
            most[i] = newMost;
            items++;
            return i;
        }

        int number(int i, int what) {
            switch (what) {
                case 0: return kind[i];
                case 1: return size[i];
                case 2: return least[i];
                default: return most[i];
            }
        }

        void write(int i, int what, int n) {
            switch (what) {
                case 1: size[i] = n; break;
                case 2: least[i] = n; break;
                default: most[i] = n; break;
            }
        }

        void shift(int from, int to) {
            shiftNumber(kind, from, to);
            shiftNumber(size, from, to);
            shiftNumber(least, from, to);
            shiftNumber(most, from, to);
        }

        private static void shiftNumber(int[] row, int from, int to) {
            int shifted = row[from];
            for (int i = from; i < to; i++) {
                row[i] = row[i + 1];
            }
            for (int i = from; i > to; i--) {
                row[i] = row[i - 1];
            }
            row[to] = shifted;
        }

        void copy(Book other) {
            for (int i = 0; i < MAX_ITEMS; i++) {
                kind[i] = other.kind[i];
                size[i] = other.size[i];
                least[i] = other.least[i];
                most[i] = other.most[i];
            }
            items = other.items;
            grid = other.grid;
            high = other.high;
        }

        int thingsOf(int i) {
            return kind[i] == TEXT ? size[i] : 1;
        }

        int thingsBefore(int i) {
            int things = 0;
            for (int j = 0; j < i; j++) {
                things += thingsOf(j);
            }
            return things;
        }

        int itemsOf(int wanted) {
            int found = 0;
            for (int i = 0; i < items; i++) {
                if (kind[i] == wanted) {
                    found++;
                }
            }
            return found;
        }

        /** How high each thing of an item is. */
        int tall(int i) {
            return kind[i] == TEXT ? grid : size[i];
        }

        int beyondGrid(int top) {
            return grid < MIN_GRID ? 0 : top % grid;
        }

        boolean isOut(int i, int top) {
            return kind[i] == TEXT && grid >= MIN_GRID && top % grid != 0;
        }
    }

    /**
     * Weighs layings. What the rest of a book costs hangs on no more than the end of the
     * thing before it: as each thing is at least 1 high, a line is the first one in its
     * column just if its top is 0, so breaks within a text need no memory of their own.
     */
    private static final class Scale {
        private static final int ENDS = MAX_HIGH + 1;
        private static final int UNWEIGHED = -1;

        private final Book book;
        private final int[] behind = new int[MAX_ITEMS * ENDS];
        private final int[] onTop = new int[MAX_ITEMS * MAX_LINES];
        private int high = FIRST_HIGH;
        private int widened = NOBODY;
        private boolean leastRooms = false;

        Scale(Book book) {
            this.book = book;
        }

        /** The cost of the best laying, one item's MOST being 30 (or none's). */
        int weigh(int newWidened) {
            high = book.high;
            widened = newWidened;
            leastRooms = false;
            return costOfAll();
        }

        /**
         * The fewest columns within a height; without a laying they are more than MAX_FIT.
         * A laying stays one when its rooms become the least, so no other rooms are tried.
         */
        int fewestColumns(int newHigh) {
            high = newHigh;
            widened = NOBODY;
            leastRooms = true;
            return costOfAll() / COLUMN_COST;
        }

        private int costOfAll() {
            if (book.items == 0) {
                return 0;
            }
            Arrays.fill(behind, UNWEIGHED);
            Arrays.fill(onTop, UNWEIGHED);
            weighOnTop(0);
            return onTop[0];
        }

        /** Whether item i opens a column, where the thing before it has this end. */
        boolean opens(int i, int end) {
            return i == 0 || costBehind(i, end) < costWithin(i, end);
        }

        /** The room of item i, where it stands in the column of the thing before it. */
        int roomBehind(int i, int end) {
            int cost = costWithin(i, end);
            int most = mostRoom(i, end);
            for (int room = book.least[i]; room < most; room++) {
                if (room + costFrom(i, 0, end + room) == cost) {
                    return room;
                }
            }
            return most;
        }

        /** The line of item i before which the column of line k ends, or one past its last. */
        int breakBehind(int i, int k, int top) {
            int things = book.thingsOf(i);
            int cost = costFrom(i, k, top);
            if (costUpTo(i, k, top, things) == cost) {
                return things;
            }
            for (int j = things - 2; j >= k + 2; j--) {
                if (costUpTo(i, k, top, j) == cost) {
                    return j;
                }
            }
            return things;
        }

        /** Of items i and on, where the thing before them has this end. */
        private int costBehind(int i, int end) {
            if (i >= book.items) {
                return 0;
            }
            int at = i * ENDS + end;
            if (behind[at] == UNWEIGHED) {
                weighOnTop(i);
                int cost = costWithin(i, end);
                if (i == 0 || book.kind[i - 1] != HEAD) {
                    cost = Math.min(cost, onTop[i * MAX_LINES]);
                }
                behind[at] = cost;
            }
            return behind[at];
        }

        /** The last lines go first, so that a break always finds what follows it weighed. */
        private void weighOnTop(int i) {
            if (onTop[i * MAX_LINES] != UNWEIGHED) {
                return;
            }
            for (int k = Math.max(0, book.thingsOf(i) - 2); k >= 0; k--) {
                onTop[i * MAX_LINES + k] = Math.min(NO_LAYING, COLUMN_COST + costFrom(i, k, 0));
            }
        }

        /** Of items i and on, where item i stands in the column of the thing before it. */
        private int costWithin(int i, int end) {
            if (book.kind[i] == TEXT) {
                return costFrom(i, 0, end);
            }
            int cost = NO_LAYING;
            int most = mostRoom(i, end);
            int endWithoutRoom = end + book.size[i];
            for (int room = book.least[i]; room <= most; room++) {
                cost = Math.min(cost, room + costBehind(i + 1, endWithoutRoom + room));
            }
            return cost;
        }

        /** What MOST and the height of the column leave; below LEAST, if the item does not fit. */
        private int mostRoom(int i, int end) {
            int most = i == widened ? MAX_ROOM : book.most[i];
            if (leastRooms) {
                most = book.least[i];
            }
            return Math.min(most, high - book.tall(i) - end);
        }

        /** Of item i from its thing k on, which has this top, and of all items behind it. */
        private int costFrom(int i, int k, int top) {
            int things = book.thingsOf(i);
            int cost = costUpTo(i, k, top, things);
            for (int j = things - 2; j >= k + 2; j--) {
                cost = Math.min(cost, costUpTo(i, k, top, j));
            }
            return cost;
        }

        /** The same, where things k to j - 1 stand in one column, and thing j, if any, opens one. */
        private int costUpTo(int i, int k, int top, int j) {
            int end = top + (j - k) * book.tall(i);
            if (end > high) {
                return NO_LAYING;
            }
            int out = book.isOut(i, top) ? (j - k) * OUT_COST : 0;
            int rest = j == book.thingsOf(i) ? costBehind(i + 1, end) : onTop[i * MAX_LINES + j];
            return Math.min(NO_LAYING, out + rest);
        }
    }

    /** THE BEST, thing by thing. */
    private static final class Laying {
        private final Book book;
        private final int[] itemOf = new int[MAX_THINGS];
        private final int[] columnOf = new int[MAX_THINGS];
        private final int[] topOf = new int[MAX_THINGS];
        private final int[] roomOf = new int[MAX_THINGS];
        private int things = 0;
        private int rooms = 0;
        private int splits = 0;
        private int left = 0;
        boolean exists = false;
        int columns = 0;
        int out = 0;

        Laying(Book book) {
            this.book = book;
        }

        /** Goes the way that has been weighed; there must be one. */
        void follow(Scale scale) {
            things = 0;
            columns = 0;
            out = 0;
            rooms = 0;
            splits = 0;
            left = 0;
            int end = 0;
            for (int i = 0; i < book.items; i++) {
                if (scale.opens(i, end)) {
                    openColumn(end);
                    end = putItem(scale, i, 0, 0);
                } else {
                    int room = scale.roomBehind(i, end);
                    end = putItem(scale, i, end + room, room);
                }
            }
            left += columns == 0 ? 0 : book.high - end;
        }

        private void openColumn(int endBefore) {
            left += columns == 0 ? 0 : book.high - endBefore;
            columns++;
        }

        private int putItem(Scale scale, int i, int firstTop, int room) {
            int top = firstTop;
            int until = scale.breakBehind(i, 0, top);
            rooms += room;
            for (int k = 0; k < book.thingsOf(i); k++) {
                if (k == until) {
                    openColumn(top);
                    splits++;
                    top = 0;
                    until = scale.breakBehind(i, k, top);
                }
                putThing(i, top, k == 0 ? room : 0);
                top += book.tall(i);
            }
            return top;
        }

        private void putThing(int i, int top, int room) {
            if (things >= MAX_THINGS) {
                return;
            }
            itemOf[things] = i;
            columnOf[things] = columns - 1;
            topOf[things] = top;
            roomOf[things] = room;
            things++;
            if (book.isOut(i, top)) {
                out++;
            }
        }

        int total(int what) {
            switch (what) {
                case 0: return columns;
                case 1: return out;
                case 2: return rooms;
                case 3: return splits;
                default: return left;
            }
        }

        int ofThing(int t, int what) {
            if (t < 0 || t >= things) {
                return NONE;
            }
            switch (what) {
                case 0: return columnOf[t];
                case 1: return topOf[t];
                case 2: return roomOf[t];
                default: return book.beyondGrid(topOf[t]);
            }
        }

        int ofColumn(int c, int what) {
            int first = firstThing(c);
            int last = firstThing(c + 1) - 1;
            if (first < 0 || last < first) {
                return NONE;
            }
            switch (what) {
                case 0: return last - first + 1;
                case 1: return topOf[last] + book.tall(itemOf[last]);
                case 2: return outAmong(first, last);
                case 3: return itemOf[first];
                default: return itemOf[last];
            }
        }

        /** The first thing of a column, or of those behind it; one past the last, if none is. */
        private int firstThing(int c) {
            int t = 0;
            while (t < things && columnOf[t] < c) {
                t++;
            }
            return t;
        }

        private int outAmong(int first, int last) {
            int found = 0;
            for (int t = first; t <= last; t++) {
                if (book.isOut(itemOf[t], topOf[t])) {
                    found++;
                }
            }
            return found;
        }

        /** At how many tops lines of a column and of the next one meet. */
        int meetings(int c) {
            int one = firstThing(c);
            int other = firstThing(c + 1);
            int oneEnd = other;
            int found = 0;
            // Tops grow within a column, so one walk down both columns sees all that meet.
            while (one < oneEnd && other < things && columnOf[other] == c + 1) {
                int apart = topOf[one] - topOf[other];
                if (apart == 0 && isLine(one) && isLine(other)) {
                    found++;
                }
                if (apart <= 0) {
                    one++;
                } else {
                    other++;
                }
            }
            return found;
        }

        private boolean isLine(int t) {
            return book.kind[itemOf[t]] == TEXT;
        }
    }
}
