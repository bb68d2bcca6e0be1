import java.util.TreeSet;
import java.util.function.IntConsumer;

/**
 * Each number that a call takes, on both sides of its bounds and near the greatest and the least
 * int: what is allowed is taken, what is not is refused as told, and then leaves things alone.
 */
public final class BoundsTest {
    private static final int UNKNOWN = Caller.UNKNOWN, OUTSIDE = Caller.OUTSIDE, STATE = Caller.STATE;
    private static final int FULL = Caller.FULL, NONE = Caller.NONE, LOW = Caller.LOW, GREAT = Caller.GREAT;
    private static final TreeSet<Integer> NUMBERS = numbers();

    /** All that stand near a bound of the document, and those that a sum, a product or a shift could wrap to one. */
    private static TreeSet<Integer> numbers() {
        TreeSet<Integer> some = new TreeSet<>();
        for (int n = -40; n <= 260; n++) some.add(n);
        for (int bit = 8; bit < 32; bit++) {
            for (int near = -13; near <= 13; near++) {
                some.add((1 << bit) + near);
                some.add(near - (1 << bit));
            }
        }
        for (int near = 0; near <= 210; near++) {
            some.add(LOW + near);
            some.add(GREAT - near);
        }
        return some;
    }

    private static void each(String sentence, IntConsumer test) {
        Caller.sentence(sentence);
        for (int n : NUMBERS) test.accept(n);
    }

    private static boolean in(int n, int from, int to) {
        return n >= from && n <= to;
    }

    private static Caller items(int kind, int many) {
        Caller b = new Caller();
        for (int i = 0; i < many; i++) b.add(kind, 1, 0, 0).is(i);
        return b;
    }

    /** A text of 3 lines, a figure 6 high, with room 12 to 17, best 14, and a text of 2 lines. */
    private static Caller three() {
        return new Caller().text(3).figure(6, 12, 17).text(2);
    }

    // ---- promise 2

    private static void addedItem(boolean fits, int kind, int size, int least, int most) {
        Caller b = new Caller();
        b.add(kind, size, least, most).is(fits ? 0 : OUTSIDE);
        b.count(0).is(fits ? 1 : 0);
        int[] due = {kind, size, kind == 0 ? 0 : least, kind == 0 ? 0 : most};
        for (int what = 0; what <= 3; what++) b.item(0, what).is(fits ? due[what] : UNKNOWN);
    }

    private static void add() {
        each("2 add, KIND 0 to 2", n -> addedItem(in(n, 0, 2), n, 1, 0, 0));
        each("2 add, 1 to 12 LINES", n -> addedItem(in(n, 1, 12), 0, n, 0, 0));
        each("2 add, of a TEXT LEAST is no matter, and 0", n -> addedItem(true, 0, 1, n, 0));
        each("2 add, of a TEXT MOST is no matter, and 0", n -> addedItem(true, 0, 1, 0, n));
        for (int k = 1; k <= 2; k++) {
            int kind = k;
            each("2 add, 1 to 80 high, KIND " + k, n -> addedItem(in(n, 1, 80), kind, n, 0, 0));
            each("2 add, LEAST 0 to 30", n -> addedItem(in(n, 0, 30), kind, 1, n, 30));
            each("2 add, MOST 0 to 30", n -> addedItem(in(n, 0, 30), kind, 1, 0, n));
            each("2 add, LEAST and MOST alike", n -> addedItem(in(n, 0, 30), kind, 1, n, n));
            each("2 add, LEAST no greater than MOST 17", n -> addedItem(in(n, 0, 17), kind, 1, n, 17));
            each("2 add, MOST no less than LEAST 17", n -> addedItem(in(n, 17, 30), kind, 1, 17, n));
        }
    }

    private static void addTwelve() {
        for (int kind = 0; kind <= 2; kind++) {
            Caller.sentence("2 add, FULL: there are 12, KIND " + kind);
            Caller b = items(kind, 12);
            for (int k = 0; k <= 2; k++) b.add(k, 1, 0, 0).is(FULL);
            b.count(0).is(12);
            b.count(10 + kind).is(12);
            b.remove(11).is(11);
            b.add(kind, 1, 0, 0).is(11);
            b.add(kind, 1, 0, 0).is(FULL);
        }
    }

    // ---- promise 3

    private static void changed(int n, boolean fits, int kind, int what, int size, int least, int most) {
        Caller b = new Caller();
        b.add(kind, size, least, most).is(0);
        int[] was = {kind, size, least, most};
        b.change(0, what, n).is(fits ? was[what] : OUTSIDE);
        for (int w = 0; w <= 3; w++) b.item(0, w).is(fits && w == what ? n : was[w]);
    }

    private static void change() {
        each("3 change, 1 to 12 LINES", n -> changed(n, in(n, 1, 12), 0, 1, 7, 0, 0));
        each("3 change, of a TEXT what = 2", n -> changed(n, false, 0, 2, 7, 0, 0));
        each("3 change, of a TEXT what = 3", n -> changed(n, false, 0, 3, 7, 0, 0));
        for (int k = 1; k <= 2; k++) {
            int kind = k;
            each("3 change, 1 to 80 high, KIND " + k, n -> changed(n, in(n, 1, 80), kind, 1, 40, 3, 4));
            each("3 change, LEAST 0 to 30", n -> changed(n, in(n, 0, 30), kind, 2, 9, 3, 30));
            each("3 change, MOST 0 to 30", n -> changed(n, in(n, 0, 30), kind, 3, 9, 0, 4));
            each("3 change, LEAST would be greater than MOST", n -> changed(n, in(n, 0, 17), kind, 2, 9, 3, 17));
            each("3 change, LEAST would be greater than MOST 0", n -> changed(n, n == 0, kind, 2, 9, 0, 0));
            each("3 change, MOST would be less than LEAST", n -> changed(n, in(n, 17, 30), kind, 3, 9, 17, 20));
            each("3 change, MOST would be less than LEAST 30", n -> changed(n, n == 30, kind, 3, 9, 30, 30));
            each("3 change, what 1 to 3", n -> {
                Caller b = new Caller();
                b.add(kind, 5, 5, 5);
                b.change(0, n, 5).is(in(n, 1, 3) ? 5 : OUTSIDE);
            });
        }
        each("3 change, of a TEXT what = 1 alone", n -> new Caller().text(5).change(0, n, 5).is(n == 1 ? 5 : OUTSIDE));
    }

    // ---- which ITEM there is: promises 3, 4, 5, 7, 9, 12

    private static void unknown() {
        int[] many = {0, 1, 3, 11, 12};
        for (int m : many) {
            String of = " of " + m + " ITEMS, UNKNOWN";
            each("3 change" + of, n -> items(2, m).change(n, 1, 2).is(in(n, 0, m - 1) ? 1 : UNKNOWN));
            each("4 remove" + of, n -> removed(n, m));
            each("5 move" + of, n -> items(2, m).move(n, 0).is(in(n, 0, m - 1) ? 1 : UNKNOWN));
            each("7 item" + of, n -> items(2, m).item(n, 1).is(in(n, 0, m - 1) ? 1 : UNKNOWN));
            each("9 place" + of, n -> items(2, m).place(n, 0, 1).is(in(n, 0, m - 1) ? n : UNKNOWN));
            each("12 relief" + of, n -> items(2, m).relief(n).is(in(n, 0, m - 1) ? 1000 : UNKNOWN));
        }
    }

    private static void removed(int n, int many) {
        Caller b = items(2, many);
        b.remove(n).is(in(n, 0, many - 1) ? many - 1 : UNKNOWN);
        b.count(0).is(in(n, 0, many - 1) ? many - 1 : many);
    }

    // ---- promises 5, 6, 7

    private static void move() {
        int[] many = {1, 3, 12};
        for (int m : many) {
            each("5 move, to 0 to one less than there are, " + m, n -> {
                Caller b = items(2, m);
                b.change(0, 1, 9);
                b.move(0, n).is(in(n, 0, m - 1) ? 1 : OUTSIDE);
                b.item(in(n, 0, m - 1) ? n : 0, 1).is(9);
            });
        }
    }

    private static void setOne(int what, int n, boolean fits) {
        Caller b = new Caller();
        int was = what == 0 ? 10 : 120;
        b.set(what, n).is(fits ? was : OUTSIDE);
        b.count(2 + what).is(fits ? n : was);
        b.count(3 - what).is(what == 0 ? 120 : 10);
    }

    private static void set() {
        each("6 set, GRID is 3 to 20", n -> setOne(0, n, in(n, 3, 20)));
        each("6 set, HIGH 12 to 200", n -> setOne(1, n, in(n, 12, 200)));
        each("6 set, what is 0 or 1", n -> {
            Caller b = new Caller();
            b.set(n, 15).is(n == 0 ? 10 : n == 1 ? 120 : OUTSIDE);
            b.count(2).is(n == 0 ? 15 : 10);
            b.count(3).is(n == 1 ? 15 : 120);
        });
    }

    private static void item() {
        int[] figure = {2, 6, 12, 17}, text = {0, 3, 0, 0};
        each("7 item, what 0 to 3", n -> {
            three().item(1, n).is(in(n, 0, 3) ? figure[n] : OUTSIDE);
            three().item(0, n).is(in(n, 0, 3) ? text[n] : OUTSIDE);
        });
    }

    // ---- promises 8 to 11

    /** 10 lines, two in a column: 5 columns, 3 pages. */
    private static Caller fiveColumns() {
        return Caller.book(10, 20).text(10);
    }

    private static void best() {
        int[] due = {5, 0, 0, 4, 0};
        each("8 best, what 0 to 4", n -> {
            fiveColumns().best(n).is(in(n, 0, 4) ? due[n] : OUTSIDE);
            new Caller().best(n).is(in(n, 0, 4) ? 0 : OUTSIDE);
            Caller.book(20, 19).text(1).best(n).is(in(n, 0, 4) ? NONE : OUTSIDE);
        });
    }

    private static void place() {
        int[] due = {0, 44, 14, 4};
        each("9 place, what 0 to 3", n -> {
            three().place(1, 0, n).is(in(n, 0, 3) ? due[n] : OUTSIDE);
            three().place(1, 1, n).is(in(n, 0, 3) ? NONE : OUTSIDE);
        });
        each("9 place, LINE k of a TEXT, the first ITEM", n -> three().place(0, n, 1).is(in(n, 0, 2) ? 10 * n : NONE));
        each("9 place, of another ITEM k is 0", n -> three().place(1, n, 1).is(n == 0 ? 44 : NONE));
        each("9 place, LINE k of a TEXT, the last ITEM", n -> three().place(2, n, 1).is(in(n, 0, 1) ? 50 + 10 * n : NONE));
        each("9 place, LINE k of a TEXT of 12", n -> new Caller().text(12).place(0, n, 1).is(in(n, 0, 11) ? 10 * n : NONE));
        each("9 place, NONE: no LAYING", n -> Caller.book(20, 19).text(3).place(0, n, 0).is(NONE));
    }

    private static void column() {
        int[] due = {2, 20, 0, 0, 0};
        each("10 column, what 0 to 4", n -> {
            fiveColumns().column(4, n).is(in(n, 0, 4) ? due[n] : OUTSIDE);
            fiveColumns().column(5, n).is(in(n, 0, 4) ? NONE : OUTSIDE);
            fiveColumns().column(-1, n).is(in(n, 0, 4) ? NONE : OUTSIDE);
            Caller.book(20, 19).text(3).column(0, n).is(in(n, 0, 4) ? NONE : OUTSIDE);
            new Caller().column(0, n).is(in(n, 0, 4) ? NONE : OUTSIDE);
        });
        for (int w = 0; w <= 4; w++) {
            int what = w;
            each("10 column, there is no such COLUMN, what = " + w,
                n -> fiveColumns().column(n, what).is(in(n, 0, 4) ? due[what] : NONE));
        }
        each("10 column, no COLUMN without ITEMS", n -> new Caller().column(n, 0).is(NONE));
        each("10 column, no LAYING", n -> Caller.book(20, 19).text(3).column(n, 0).is(NONE));
    }

    private static void meet() {
        int[] due = {2, 2, 0};
        each("11 meet, no COLUMN of page p has any THING", n -> fiveColumns().meet(n).is(in(n, 0, 2) ? due[n] : NONE));
        each("11 meet, page p of two COLUMNS", n -> Caller.book(10, 20).text(4).meet(n).is(n == 0 ? 2 : NONE));
        each("11 meet, no page without ITEMS", n -> new Caller().meet(n).is(NONE));
        each("11 meet, no LAYING", n -> Caller.book(20, 19).text(3).meet(n).is(NONE));
    }

    // ---- promises 14 to 17

    private static void fit() {
        int[] due = {NONE, 100, 50, 40, 30, 20};
        each("14 fit, n 0 to 150", n -> {
            fiveColumns().fit(n).is(!in(n, 0, 150) ? OUTSIDE : n <= 5 ? due[n] : 20);
            new Caller().fit(n).is(in(n, 0, 150) ? 12 : OUTSIDE);
        });
        // Three heads stand in one column, and are 201 high.
        each("14 fit, none is 12 to 200", n -> Caller.book(20, 200).head(80, 0, 0).head(80, 0, 0).head(41, 0, 0)
            .fit(n).is(in(n, 0, 150) ? NONE : OUTSIDE));
    }

    private static void images() {
        each("15 image, IMAGES 0, 1", n -> {
            Caller b = three();
            b.image(n).is(in(n, 0, 1) ? 1 : OUTSIDE);
            b.count(4).is(n == 0 ? 1 : n == 1 ? 2 : 0);
        });
        each("16 restore, IMAGES 0, 1, nothing was kept", n -> {
            Caller b = three();
            b.restore(n).is(in(n, 0, 1) ? STATE : OUTSIDE);
            b.count(0).is(3);
        });
        each("16 restore, IMAGES 0, 1, both were kept", n -> {
            Caller b = new Caller().text(3);
            b.image(0);
            b.text(4).image(1);
            b.text(5);
            b.restore(n).is(in(n, 0, 1) ? 1 : OUTSIDE);
            b.count(0).is(n == 0 ? 1 : n == 1 ? 2 : 3);
            b.count(4).is(3);
        });
    }

    private static void count() {
        int[] low = {3, 6, 10, 120, 0}, kinds = {2, 0, 1};
        each("17 count, what 0 to 4, 10 to 12", n ->
            three().count(n).is(in(n, 0, 4) ? low[n] : in(n, 10, 12) ? kinds[n - 10] : OUTSIDE));
        int[] empty = {0, 0, 10, 120, 0};
        each("17 count without ITEMS", n ->
            new Caller().count(n).is(in(n, 0, 4) ? empty[n] : in(n, 10, 12) ? 0 : OUTSIDE));
    }

    public static void main(String[] args) {
        add();
        addTwelve();
        change();
        unknown();
        move();
        set();
        item();
        best();
        place();
        column();
        meet();
        fit();
        images();
        count();
        Caller.end();
    }
}
