/** Each promise of the document by hand: ordinary inputs, the edges, and wrong inputs. */
public final class PromiseTest {
    private static final int UNKNOWN = -1, OUTSIDE = -2, STATE = -3, FULL = -4, NONE = -6;
    private static final int LOW = Integer.MIN_VALUE, GREAT = Integer.MAX_VALUE;
    private static int wrong = 0;
    private static String promise = "";

    private static void due(String call, int got, int want) {
        if (got != want) {
            wrong++;
            System.out.println(promise + ": " + call + " answered " + got + ", due is " + want);
        }
    }

    private static void newObject() {
        promise = "promise 1";
        StepColumns x = new StepColumns();
        due("count(0)", x.count(0), 0);
        due("count(1)", x.count(1), 0);
        due("count(2)", x.count(2), 10);
        due("count(3)", x.count(3), 120);
        due("count(4)", x.count(4), 0);
        due("restore(0)", x.restore(0), STATE);
        due("restore(1)", x.restore(1), STATE);
        for (int what = 0; what <= 4; what++) due("best of no items", x.best(what), 0);
        StepColumns y = new StepColumns();
        x.add(0, 1, 0, 0);
        x.image(0);
        due("another object", y.count(0), 0);
        due("another object", y.count(4), 0);
    }

    private static void add() {
        promise = "promise 2";
        StepColumns x = new StepColumns();
        int[][] outside = {{-1, 1, 0, 0}, {3, 1, 0, 0}, {LOW, 1, 0, 0}, {GREAT, 1, 0, 0}, {0, 0, 0, 0}, {0, 13, 0, 0},
            {0, -1, 0, 0}, {1, 0, 0, 0}, {1, 81, 0, 0}, {2, 0, 0, 0}, {2, 81, 0, 0}, {1, 5, -1, 5}, {1, 5, 0, 31},
            {2, 5, 31, 31}, {2, 5, 6, 5}, {2, 5, -2, -1}, {1, LOW, 0, 0}, {1, GREAT, 0, 0}, {1, 1, LOW, 0}, {1, 1, 0, GREAT}};
        for (int[] a : outside) due("add", x.add(a[0], a[1], a[2], a[3]), OUTSIDE);
        due("nothing added", x.count(0), 0);
        due("add(0, 12, LOW, GREAT)", x.add(0, 12, LOW, GREAT), 0);
        due("item(0, 2)", x.item(0, 2), 0);
        due("item(0, 3)", x.item(0, 3), 0);
        due("add(0, 1, 30, 0)", x.add(0, 1, 30, 0), 1);
        due("add(1, 80, 0, 30)", x.add(1, 80, 0, 30), 2);
        due("add(2, 1, 30, 30)", x.add(2, 1, 30, 30), 3);
        due("item(3, 0)", x.item(3, 0), 2);
        due("item(3, 2)", x.item(3, 2), 30);
        for (int i = 4; i < 12; i++) due("add", x.add(2, i, 0, 0), i);
        due("a thirteenth", x.add(0, 1, 0, 0), FULL);
        due("a wrong thirteenth", x.add(0, 13, 0, 0), OUTSIDE);
        due("count(0)", x.count(0), 12);
        due("remove(0)", x.remove(0), 11);
        due("add again", x.add(0, 1, 0, 0), 11);
    }

    private static void change() {
        promise = "promise 3";
        StepColumns x = new StepColumns();
        due("change(0, 1, 1)", x.change(0, 1, 1), UNKNOWN);
        x.add(0, 3, 0, 0);
        x.add(2, 40, 5, 9);
        due("change(2, 9, 99)", x.change(2, 9, 99), UNKNOWN);
        due("change(-1, 1, 1)", x.change(-1, 1, 1), UNKNOWN);
        due("change(0, 1, 12)", x.change(0, 1, 12), 3);
        due("change(0, 1, 1)", x.change(0, 1, 1), 12);
        int[][] outside = {{0, 0, 1}, {0, 4, 1}, {0, 1, 0}, {0, 1, 13}, {0, 2, 0}, {0, 3, 0}, {1, 0, 1}, {1, 4, 1}, {1, LOW, 1},
            {1, GREAT, 1}, {1, 1, 0}, {1, 1, 81}, {1, 2, -1}, {1, 2, 10}, {1, 3, 4}, {1, 3, 31}, {1, 3, GREAT}, {1, 2, LOW}};
        for (int[] a : outside) due("change(" + a[0] + ", " + a[1] + ", " + a[2] + ")", x.change(a[0], a[1], a[2]), OUTSIDE);
        due("change(1, 1, 80)", x.change(1, 1, 80), 40);
        due("change(1, 1, 1)", x.change(1, 1, 1), 80);
        due("change(1, 2, 9)", x.change(1, 2, 9), 5);
        due("change(1, 3, 9)", x.change(1, 3, 9), 9);
        due("change(1, 3, 30)", x.change(1, 3, 30), 9);
        due("change(1, 2, 0)", x.change(1, 2, 0), 9);
        due("change(1, 3, 0)", x.change(1, 3, 0), 30);
        due("item(1, 1)", x.item(1, 1), 1);
        due("item(1, 2)", x.item(1, 2), 0);
        due("item(1, 3)", x.item(1, 3), 0);
        due("item(0, 1)", x.item(0, 1), 1);
    }

    private static StepColumns fourFigures() {
        StepColumns x = new StepColumns();
        for (int i = 0; i < 4; i++) x.add(i % 3, i + 1, i, i + 10);
        return x;
    }

    private static void sizesAre(StepColumns x, int... sizes) {
        due("count(0)", x.count(0), sizes.length);
        for (int i = 0; i < sizes.length; i++) {
            due("item(" + i + ", 1)", x.item(i, 1), sizes[i]);
            int kind = (sizes[i] - 1) % 3;
            due("item(" + i + ", 0)", x.item(i, 0), kind);
            due("item(" + i + ", 2)", x.item(i, 2), kind == 0 ? 0 : sizes[i] - 1);
            due("item(" + i + ", 3)", x.item(i, 3), kind == 0 ? 0 : sizes[i] + 9);
        }
    }

    private static void remove() {
        promise = "promise 4";
        StepColumns x = fourFigures();
        due("remove(-1)", x.remove(-1), UNKNOWN);
        due("remove(4)", x.remove(4), UNKNOWN);
        due("remove(GREAT)", x.remove(GREAT), UNKNOWN);
        sizesAre(x, 1, 2, 3, 4);
        due("remove(1)", x.remove(1), 3);
        sizesAre(x, 1, 3, 4);
        due("remove(2)", x.remove(2), 2);
        sizesAre(x, 1, 3);
        due("remove(0)", x.remove(0), 1);
        due("remove(0)", x.remove(0), 0);
        due("remove(0)", x.remove(0), UNKNOWN);
    }

    private static void move() {
        promise = "promise 5";
        StepColumns x = fourFigures();
        due("move(4, 9)", x.move(4, 9), UNKNOWN);
        due("move(-1, 0)", x.move(-1, 0), UNKNOWN);
        due("move(0, 4)", x.move(0, 4), OUTSIDE);
        due("move(0, -1)", x.move(0, -1), OUTSIDE);
        sizesAre(x, 1, 2, 3, 4);
        due("move(0, 3)", x.move(0, 3), 1);
        sizesAre(x, 2, 3, 4, 1);
        due("move(2, 1)", x.move(2, 1), 1);
        sizesAre(x, 2, 4, 3, 1);
        due("move(3, 0)", x.move(3, 0), 1);
        sizesAre(x, 1, 2, 4, 3);
        due("move(2, 2)", x.move(2, 2), 1);
        sizesAre(x, 1, 2, 4, 3);
    }

    private static void set() {
        promise = "promise 6";
        StepColumns x = new StepColumns();
        int[][] outside = {{0, 2}, {0, 21}, {1, 11}, {1, 201}, {2, 20}, {-1, 20}, {0, LOW}, {1, GREAT}, {LOW, 12}, {GREAT, 12}};
        for (int[] a : outside) due("set(" + a[0] + ", " + a[1] + ")", x.set(a[0], a[1]), OUTSIDE);
        due("set(0, 3)", x.set(0, 3), 10);
        due("set(0, 20)", x.set(0, 20), 3);
        due("set(1, 12)", x.set(1, 12), 120);
        due("set(1, 200)", x.set(1, 200), 12);
        due("count(2)", x.count(2), 20);
        due("count(3)", x.count(3), 200);
    }

    private static void item() {
        promise = "promise 7";
        StepColumns x = new StepColumns();
        due("item(0, 0)", x.item(0, 0), UNKNOWN);
        x.add(1, 33, 4, 17);
        int[] numbers = {1, 33, 4, 17};
        for (int what = 0; what < 4; what++) due("item(0, " + what + ")", x.item(0, what), numbers[what]);
        due("item(0, -1)", x.item(0, -1), OUTSIDE);
        due("item(0, 4)", x.item(0, 4), OUTSIDE);
        due("item(0, GREAT)", x.item(0, GREAT), OUTSIDE);
        due("item(1, 4)", x.item(1, 4), UNKNOWN);
        due("item(-1, 0)", x.item(-1, 0), UNKNOWN);
        due("item(LOW, 0)", x.item(LOW, 0), UNKNOWN);
    }

    /** Columns of 4 lines: 6 lines break 4 and 2; the figure behind takes its least room, 3. */
    private static StepColumns broken() {
        StepColumns x = new StepColumns();
        x.set(1, 45);
        x.add(0, 6, 0, 0);
        x.add(2, 12, 3, 6);
        x.add(0, 1, 0, 0);
        return x;
    }

    private static void best() {
        promise = "promise 8";
        StepColumns x = broken();
        // 4 lines | 2 lines, room 3 to 6, 12 high, 1 line: ends at 45, out of step | nothing
        int[] numbers = {2, 1, 3, 1, 5};
        for (int what = 0; what <= 4; what++) due("best(" + what + ")", x.best(what), numbers[what]);
        due("best(-1)", x.best(-1), OUTSIDE);
        due("best(5)", x.best(5), OUTSIDE);
        x.change(1, 1, 46);
        for (int what = 0; what <= 4; what++) due("best of none", x.best(what), NONE);
        due("best(5) of none", x.best(5), OUTSIDE);
    }

    private static void breaks() {
        promise = "promise 8, section 2";
        StepColumns x = new StepColumns();
        x.set(1, 20);
        x.add(0, 3, 0, 0);
        due("3 lines can't break 2 and 1", x.best(0), NONE);
        x.change(0, 1, 4);
        due("4 lines break 2 and 2", x.best(0), 2);
        x.set(1, 19);
        due("2 lines don't fit", x.best(0), NONE);
        x.change(0, 1, 1);
        due("a single line", x.best(0), 1);

        // A line of its text before a break is one too few, though 2 lines stand in the column.
        x = new StepColumns();
        x.set(1, 30);
        x.add(2, 20, 0, 0);
        x.add(0, 4, 0, 0);
        due("figure | 4 lines in two columns", x.best(0), 3);
        due("place(1, 0, 0)", x.place(1, 0, 0), 1);
        due("place(1, 2, 0), the later break has only 1 line behind", x.place(1, 2, 0), 2);

        // Behind a head no column may begin, be it a line, a figure or a head.
        for (int kind = 0; kind < 3; kind++) {
            x = new StepColumns();
            x.set(1, 30);
            x.add(1, 25, 0, 0);
            x.add(kind, kind == 0 ? 1 : 10, 0, 0);
            due("behind a head", x.best(0), NONE);
            x.set(1, 35);
            due("behind a head", x.best(0), 1);
            x.set(1, 34);
            due("behind a head", x.best(0), NONE);
            x.move(0, 1);
            due("a head as last", x.best(0), kind == 1 ? NONE : 2);
        }

        // Lines follow a head into the column it begins; the head behind a figure may begin one.
        x = new StepColumns();
        x.set(1, 40);
        x.add(2, 30, 0, 0);
        x.add(1, 10, 0, 0);
        x.add(0, 1, 0, 0);
        due("best(0)", x.best(0), 2);
        due("place(1, 0, 0)", x.place(1, 0, 0), 1);
        due("place(2, 0, 1)", x.place(2, 0, 1), 10);
    }

    private static void order() {
        promise = "promise 8, THE BEST";
        // Fewer columns go before lines in step: room 5 would bring them into step, but no room is left.
        StepColumns x = new StepColumns();
        x.set(1, 60);
        x.add(0, 2, 0, 0);
        x.add(2, 15, 0, 10);
        x.add(0, 2, 0, 0);
        due("best(0)", x.best(0), 1);
        due("best(1)", x.best(1), 0);
        due("best(2)", x.best(2), 5);
        x.set(1, 59);
        due("best(0)", x.best(0), 1);
        due("best(1)", x.best(1), 2);
        due("best(2)", x.best(2), 0);

        // Rooms alike in sum: the earlier thing has less.
        x = new StepColumns();
        x.add(0, 1, 0, 0);
        x.add(2, 5, 0, 9);
        x.add(2, 5, 0, 9);
        x.add(2, 5, 0, 9);
        x.add(0, 1, 0, 0);
        due("best(2)", x.best(2), 5);
        due("place(1, 0, 2)", x.place(1, 0, 2), 0);
        due("place(2, 0, 2)", x.place(2, 0, 2), 0);
        due("place(3, 0, 2)", x.place(3, 0, 2), 5);
        x.change(3, 3, 3);
        due("place(2, 0, 2)", x.place(2, 0, 2), 2);
        due("place(3, 0, 2)", x.place(3, 0, 2), 3);

        // All else alike, a column is filled before the next one begins.
        x = new StepColumns();
        x.set(1, 40);
        x.add(0, 6, 0, 0);
        due("place(0, 3, 0)", x.place(0, 3, 0), 0);
        due("place(0, 4, 0)", x.place(0, 4, 0), 1);
        x.change(0, 1, 5);
        due("place(0, 2, 0)", x.place(0, 2, 0), 0);
        due("place(0, 3, 0)", x.place(0, 3, 0), 1);

        // A figure that begins a column has no room, which is less than any LEAST.
        x = new StepColumns();
        x.set(1, 30);
        x.add(0, 1, 0, 0);
        x.add(2, 10, 4, 4);
        x.add(2, 20, 0, 0);
        due("best(0)", x.best(0), 2);
        due("best(2)", x.best(2), 0);
        due("place(1, 0, 0)", x.place(1, 0, 0), 1);
        due("place(1, 0, 1)", x.place(1, 0, 1), 0);
    }

    private static void place() {
        promise = "promise 9";
        StepColumns x = broken();
        int[][] places = {{0, 0, 0, 0, 0}, {0, 3, 0, 30, 0}, {0, 4, 1, 0, 0}, {0, 5, 1, 10, 0}, {1, 0, 1, 23, 3}, {2, 0, 1, 35, 0}};
        for (int[] a : places) {
            for (int what = 0; what < 3; what++) due("place(" + a[0] + ", " + a[1] + ", " + what + ")", x.place(a[0], a[1], what), a[2 + what]);
            due("beyond the grid", x.place(a[0], a[1], 3), a[3] % 10);
        }
        due("place(0, 6, 0)", x.place(0, 6, 0), NONE);
        due("place(0, -1, 0)", x.place(0, -1, 0), NONE);
        due("place(0, LOW, 0)", x.place(0, LOW, 0), NONE);
        due("place(0, GREAT, 0)", x.place(0, GREAT, 0), NONE);
        due("place(1, 1, 0)", x.place(1, 1, 0), NONE);
        due("place(1, -1, 0)", x.place(1, -1, 0), NONE);
        due("place(3, 0, 4)", x.place(3, 0, 4), UNKNOWN);
        due("place(-1, 0, 0)", x.place(-1, 0, 0), UNKNOWN);
        due("place(0, 6, 4)", x.place(0, 6, 4), OUTSIDE);
        due("place(0, 0, -1)", x.place(0, 0, -1), OUTSIDE);
        x.set(1, 12);
        due("place(0, 0, 0) of none", x.place(0, 0, 0), NONE);
        due("place(0, 0, 4) of none", x.place(0, 0, 4), OUTSIDE);
    }

    private static void column() {
        promise = "promise 10";
        StepColumns x = broken();
        int[][] columns = {{4, 40, 0, 0, 0}, {4, 45, 1, 0, 2}};
        for (int c = 0; c < 2; c++)
            for (int what = 0; what <= 4; what++) due("column(" + c + ", " + what + ")", x.column(c, what), columns[c][what]);
        int[] none = {-1, 2, LOW, GREAT, GREAT - 1};
        for (int c : none) {
            due("column(" + c + ", 0)", x.column(c, 0), NONE);
            due("column(" + c + ", 5)", x.column(c, 5), OUTSIDE);
        }
        due("column(0, -1)", x.column(0, -1), OUTSIDE);
        x.set(1, 12);
        due("column(0, 0) of none", x.column(0, 0), NONE);
        due("column(0, 5) of none", x.column(0, 5), OUTSIDE);
        due("column(0, 0) of nothing", new StepColumns().column(0, 0), NONE);
    }

    private static void meet() {
        promise = "promise 11";
        StepColumns x = new StepColumns();
        due("meet(0) of nothing", x.meet(0), NONE);
        x.set(1, 40);
        x.add(0, 12, 0, 0);
        due("meet(0)", x.meet(0), 4);
        due("meet(1), one column", x.meet(1), 0);
        int[] none = {2, -1, LOW, GREAT, 1 << 30, 1 << 31 - 1};
        for (int p : none) due("meet(" + p + ")", x.meet(p), NONE);
        x.set(1, 30);
        due("meet(1)", x.meet(1), 3);
        due("meet(2)", x.meet(2), NONE);
        x.set(1, 20);
        due("meet(2), pages of 2 columns", x.meet(2), 2);
        x.set(1, 19);
        due("meet(0) of none", x.meet(0), NONE);

        // Figures and heads meet nothing, and lines out of step meet where both are out alike.
        x = new StepColumns();
        x.set(1, 25);
        x.add(2, 5, 0, 0);
        x.add(0, 2, 0, 0);
        x.add(1, 5, 0, 0);
        x.add(0, 2, 0, 0);
        due("best(1)", x.best(1), 4);
        due("meet(0)", x.meet(0), 2);
        x.change(0, 1, 4);
        due("meet(0)", x.meet(0), 0);
        x.add(2, 25, 0, 0);
        x.add(2, 25, 0, 0);
        due("meet(1), figures alone", x.meet(1), 0);
    }

    private static void relief() {
        promise = "promise 12";
        StepColumns x = new StepColumns();
        x.add(0, 2, 0, 0);
        x.add(2, 14, 2, 2);
        x.add(0, 2, 0, 0);
        x.add(1, 14, 2, 2);
        x.add(0, 3, 0, 0);
        // Lines at 36 and at 72 are out: 10 units of room in place of 2, of either, mend the last 3.
        due("best(1)", x.best(1), 5);
        due("relief(1)", x.relief(1), 1003);
        due("relief(3)", x.relief(3), 1003);
        due("item(1, 3) stays", x.item(1, 3), 2);
        due("best(1) stays", x.best(1), 5);
        due("relief(0)", x.relief(0), OUTSIDE);
        due("relief(5)", x.relief(5), UNKNOWN);
        due("relief(-1)", x.relief(-1), UNKNOWN);
        x.change(1, 3, 30);
        due("best(1)", x.best(1), 2);
        due("relief(1), 30 as it is", x.relief(1), 1000);
        x.set(1, 12);
        due("relief(1) of none", x.relief(1), NONE);
        due("relief(0) of none", x.relief(0), OUTSIDE);
        due("relief(9) of none", x.relief(9), UNKNOWN);
    }

    private static void culprit() {
        promise = "promise 13";
        StepColumns x = new StepColumns();
        due("culprit() of nothing", x.culprit(), NONE);
        x.add(0, 2, 0, 0);
        due("culprit() of text", x.culprit(), NONE);
        x.add(2, 14, 2, 2);
        x.add(0, 2, 0, 0);
        x.add(1, 14, 2, 2);
        x.add(0, 3, 0, 0);
        due("culprit(), the least of two", x.culprit(), 1);
        x.change(1, 1, 10);
        x.change(1, 2, 0);
        due("culprit(), the head alone", x.culprit(), 3);
        x.change(3, 3, 30);
        due("culprit(), all in step", x.culprit(), NONE);
        x.set(1, 12);
        due("culprit() of none", x.culprit(), NONE);

        // 12 items, the last but one a culprit of all the lines behind it.
        x = new StepColumns();
        for (int i = 0; i < 10; i++) x.add(0, 1, 0, 0);
        x.add(1, 5, 0, 4);
        x.add(0, 1, 0, 0);
        due("culprit() of 12", x.culprit(), 10);
        due("relief(10)", x.relief(10), 1001);
        due("relief(12)", x.relief(12), UNKNOWN);
        x.change(10, 1, 7);
        x.change(11, 1, 2);
        x.set(1, 127);
        due("culprit() of 12, no room for relief", x.culprit(), NONE);
        due("best(1)", x.best(1), 2);
        due("relief(10)", x.relief(10), 1000);

        // The first of a column has no room: it relieves nothing, and the lines stay out.
        x = new StepColumns();
        x.add(2, 7, 0, 0);
        x.add(0, 3, 0, 0);
        due("best(1)", x.best(1), 3);
        due("relief(0)", x.relief(0), 1000);
        due("culprit(), no relief", x.culprit(), NONE);
    }

    private static void fit() {
        promise = "promise 14";
        StepColumns x = new StepColumns();
        due("fit(0) of nothing", x.fit(0), 12);
        due("fit(150) of nothing", x.fit(150), 12);
        due("fit(-1)", x.fit(-1), OUTSIDE);
        due("fit(151)", x.fit(151), OUTSIDE);
        due("fit(LOW)", x.fit(LOW), OUTSIDE);
        due("fit(GREAT)", x.fit(GREAT), OUTSIDE);
        x.add(0, 12, 0, 0);
        int[] least = {NONE, 120, 60, 40, 30, 30, 20};
        for (int n = 0; n < least.length; n++) due("fit(" + n + ")", x.fit(n), least[n]);
        due("fit(150)", x.fit(150), 20);
        due("HIGH stays", x.count(3), 120);
        due("best(0) stays", x.best(0), 1);
        x.set(1, 12);
        due("HIGH is no matter", x.fit(1), 120);
        x.add(2, 80, 0, 30);
        due("fit(1), 200 high", x.fit(1), 200);
        x.change(1, 2, 1);
        due("fit(1), LEAST is too much", x.fit(1), NONE);
        due("fit(2), 10 lines and 2 with the figure", x.fit(2), 101);
        due("fit(3)", x.fit(3), 80);
        x.set(0, 20);
        due("fit(2), 8 lines and 4 with the figure", x.fit(2), 161);
        x.remove(0);
        x.change(0, 1, 1);
        due("fit(1) is no less than 12", x.fit(1), 12);
    }

    private static void images() {
        promise = "promises 15, 16";
        StepColumns x = new StepColumns();
        int[] outside = {-1, 2, LOW, GREAT, 32, 33};
        for (int k : outside) {
            due("image(" + k + ")", x.image(k), OUTSIDE);
            due("restore(" + k + ")", x.restore(k), OUTSIDE);
        }
        due("restore(0)", x.restore(0), STATE);
        x.add(0, 5, 0, 0);
        x.add(2, 7, 1, 2);
        x.set(0, 9);
        due("image(1)", x.image(1), 1);
        due("restore(0)", x.restore(0), STATE);
        due("count(4)", x.count(4), 2);
        due("best(1)", x.best(1), 0);
        x.change(1, 1, 8);
        x.change(1, 2, 2);
        x.change(1, 3, 3);
        x.remove(0);
        x.set(0, 4);
        x.set(1, 33);
        due("best(0)", x.best(0), 1);
        due("restore(1)", x.restore(1), 1);
        due("count(0)", x.count(0), 2);
        due("item(0, 1)", x.item(0, 1), 5);
        due("item(1, 0)", x.item(1, 0), 2);
        due("item(1, 1)", x.item(1, 1), 7);
        due("item(1, 2)", x.item(1, 2), 1);
        due("item(1, 3)", x.item(1, 3), 2);
        due("count(2)", x.count(2), 9);
        due("count(3)", x.count(3), 120);
        due("place(1, 0, 1) is told anew", x.place(1, 0, 1), 46);
        x.change(0, 1, 6);
        due("restore(1) again", x.restore(1), 1);
        due("the image stays", x.item(0, 1), 5);
        x.remove(0);
        due("image(1) in place of it", x.image(1), 1);
        due("image(0)", x.image(0), 1);
        x.remove(0);
        due("restore(1)", x.restore(1), 1);
        due("count(0)", x.count(0), 1);
        due("count(4)", x.count(4), 3);
    }

    private static void count() {
        promise = "promise 17";
        StepColumns x = new StepColumns();
        x.add(0, 12, 0, 0);
        x.add(0, 3, 0, 0);
        x.add(1, 70, 0, 0);
        x.add(2, 60, 0, 0);
        x.add(2, 50, 0, 0);
        x.add(2, 40, 0, 0);
        int[][] numbers = {{0, 6}, {1, 19}, {2, 10}, {3, 120}, {4, 0}, {10, 2}, {11, 1}, {12, 3}};
        for (int[] a : numbers) due("count(" + a[0] + ")", x.count(a[0]), a[1]);
        int[] outside = {-1, 5, 6, 7, 8, 9, 13, LOW, GREAT};
        for (int what : outside) due("count(" + what + ")", x.count(what), OUTSIDE);
        x.image(0);
        due("count(4)", x.count(4), 1);
    }

    /** The most that can be: 144 lines, two in each column, and the greatest rooms. */
    private static void greatest() {
        promise = "the greatest book";
        StepColumns x = new StepColumns();
        x.set(0, 12);
        x.set(1, 24);
        for (int i = 0; i < 12; i++) x.add(0, 12, 0, 0);
        due("best(0)", x.best(0), 72);
        due("best(3)", x.best(3), 60);
        due("place(11, 11, 0)", x.place(11, 11, 0), 71);
        due("meet(35)", x.meet(35), 2);
        due("meet(36)", x.meet(36), NONE);
        due("fit(72)", x.fit(72), 24);
        x = new StepColumns();
        for (int i = 0; i < 12; i++) x.add(2, 1, 30, 30);
        x.set(1, 62);
        due("best(0)", x.best(0), 6);
        x.set(1, 200);
        due("best(0)", x.best(0), 2);
        due("best(2)", x.best(2), 300);

        // A column that is full to the last unit of 200, before the last item that can be.
        x = new StepColumns();
        x.set(1, 200);
        for (int i = 0; i < 10; i++) x.add(2, 12, 0, 0);
        x.add(2, 80, 0, 0);
        x.add(2, 1, 0, 30);
        due("best(0)", x.best(0), 2);
        due("column(0, 1)", x.column(0, 1), 200);
        due("place(11, 0, 1)", x.place(11, 0, 1), 0);
        due("best(4)", x.best(4), 199);
        due("fit(1)", x.fit(1), NONE);
        due("fit(2), 8 of 12 high and the rest", x.fit(2), 105);
    }

    public static void main(String[] args) {
        newObject();
        add();
        change();
        remove();
        move();
        set();
        item();
        best();
        breaks();
        order();
        place();
        column();
        meet();
        relief();
        culprit();
        fit();
        images();
        count();
        greatest();
        System.out.println(wrong == 0 ? "all promises hold" : wrong + " answers are not as due");
        if (wrong != 0) System.exit(1);
    }
}
