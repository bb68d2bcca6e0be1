/** The edges that sections 1 to 3 and the promises name, sentence by sentence; what is due is reckoned by hand. */
public final class EdgeTest {
    private static final int UNKNOWN = Caller.UNKNOWN, OUTSIDE = Caller.OUTSIDE, STATE = Caller.STATE;
    private static final int FULL = Caller.FULL, NONE = Caller.NONE;

    // ---- what it is

    private static void lastCall() {
        Caller.sentence("An object is used for at most 512 calls: the last one is answered");
        Caller b = new Caller();
        for (int i = 0; i < 12; i++) b.text(12);
        b.image(0);
        while (b.calls < 508) b.fit(1).is(NONE);
        b.remove(0).is(11);
        b.restore(0).is(1);
        b.add(0, 1, 0, 0).is(FULL);
        b.place(11, 11, 1).is(110);
    }

    // ---- promise 1, and no ITEMS

    private static void holdsNothing(Caller b, int grid, int high, int kept) {
        int[][] counts = {{0, 0}, {1, 0}, {2, grid}, {3, high}, {4, kept}, {10, 0}, {11, 0}, {12, 0}};
        for (int[] c : counts) b.count(c[0]).is(c[1]);
        b.bestAre(0, 0, 0, 0, 0);
        b.item(0, 0).is(UNKNOWN);
        b.place(0, 0, 0).is(UNKNOWN);
        b.relief(0).is(UNKNOWN);
        b.column(0, 0).is(NONE);
        b.meet(0).is(NONE);
        b.culprit().is(NONE);
        b.fit(0).is(12);
        b.change(0, 1, 1).is(UNKNOWN);
        b.move(0, 0).is(UNKNOWN);
        b.remove(0).is(UNKNOWN);
    }

    private static void nothing() {
        Caller.sentence("1 A new object: no ITEM; GRID 10, HIGH 120; no IMAGE is kept");
        Caller b = new Caller();
        holdsNothing(b, 10, 120, 0);
        b.restore(0).is(STATE);
        b.restore(1).is(STATE);
        b.add(0, 1, 0, 0).is(0);
        Caller.sentence("Without ITEMS there is a LAYING, of 0 COLUMNS: wherever no LINE would fit");
        holdsNothing(Caller.book(20, 12), 20, 12, 0);
        Caller.sentence("Without ITEMS there is a LAYING: the last ITEM went");
        b = Caller.book(20, 12).text(1);
        b.noLaying();
        b.remove(0).is(0);
        holdsNothing(b, 20, 12, 0);
        Caller.sentence("Without ITEMS there is a LAYING: 12 ITEMS went");
        b = new Caller();
        for (int i = 0; i < 12; i++) b.text(12);
        b.best(0).is(12);
        for (int i = 11; i >= 0; i--) b.remove(i / 2).is(i);
        holdsNothing(b, 10, 120, 0);
    }

    // ---- section 1

    private static void things() {
        Caller.sentence("1 up to 12 ITEMS, numbered from 0 on; THINGS are LINES, HEADS and FIGURES");
        Caller b = Caller.book(3, 200);
        for (int i = 0; i < 12; i++) b.add(0, 12, 0, 0).is(i);
        b.count(1).is(144);
        // 66 lines are 198 high: 5 texts and 6 lines of a sixth, the other 6 and 5 texts, the last text.
        b.bestAre(3, 0, 0, 1, 600 - 432);
        b.stands(5, 5, 0, 195, 0);
        b.stands(5, 6, 1, 0, 0);
        b.stands(11, 11, 2, 33, 0);
        for (int i = 0; i < 12; i++) b.change(i, 1, 1).is(12);
        b.count(1).is(12);
        b.add(0, 1, 0, 0).is(FULL);
        b.remove(11).is(11);
        b.add(1, 80, 0, 0).is(11);
        b.count(1).is(12);
        b.remove(0).is(11);
        b.add(2, 80, 0, 0).is(11);
        b.count(1).is(12);
        b.count(10).is(10);
        b.count(11).is(1);
        b.count(12).is(1);
        Caller.sentence("1 LINES, each GRID units high");
        b = Caller.book(3, 200).text(12);
        b.column(0, 1).is(36);
        b.set(0, 20).is(3);
        b.column(0, 1).is(200);
        b.column(1, 1).is(40);
    }

    // ---- section 2, (a) and (b)

    private static void columnsInOrder() {
        Caller.sentence("2 (a) the first THING is in COLUMN 0, each other one in that of the THING before it or the next");
        Caller b = Caller.book(10, 80);
        for (int i = 0; i < 12; i++) b.figure(80, 30, 30);
        b.bestAre(12, 0, 0, 0, 0);
        for (int i = 0; i < 12; i++) {
            b.stands(i, 0, i, 0, 0);
            b.column(i, 0).is(1);
            b.column(i, 3).is(i);
            b.column(i, 4).is(i);
        }
        b.column(12, 0).is(NONE);
        b.meet(5).is(0);
        b.meet(6).is(NONE);
        b.fit(12).is(80);
        b.fit(11).is(190);
        b.set(1, 190).is(80);
        b.best(0).is(6);
        b.set(1, 189).is(190);
        b.best(0).is(12);
    }

    private static void ofColumns() {
        Caller.sentence("10 column: how many THINGS, the END of the last one, LINES OUT, the ITEMS of the first and the last");
        // A figure, 3 lines out of step and 2 of the next text; its 2 others, a head, a line out of step.
        Caller b = Caller.book(10, 57).figure(7, 0, 0).text(3).text(4).head(25, 1, 1).text(1);
        int[][] due = {{6, 57, 5, 0, 2}, {4, 56, 1, 2, 4}};
        for (int c = 0; c < 2; c++) {
            for (int what = 0; what <= 4; what++) b.column(c, what).is(due[c][what]);
        }
        for (int what = 0; what <= 4; what++) {
            b.column(2, what).is(NONE);
            b.column(-1, what).is(NONE);
        }
        b.bestAre(2, 6, 1, 1, 1);
    }

    private static void rooms() {
        Caller.sentence("2 (b) the first THING of all has TOP 0 and ROOM 0, whatever its LEAST is");
        for (int kind = 1; kind <= 2; kind++) {
            Caller b = Caller.book(10, 80);
            b.add(kind, 80, 30, 30);
            b.bestAre(1, 0, 0, 0, 0);
            b.stands(0, 0, 0, 0, 0);
        }
        Caller.sentence("2 (b) the FIRST one in its COLUMN has TOP 0 and ROOM 0, whatever its LEAST is");
        for (int kind = 1; kind <= 2; kind++) {
            Caller b = Caller.book(10, 80).text(8);
            b.add(kind, 80, 30, 30);
            b.bestAre(2, 0, 0, 0, 0);
            b.stands(1, 0, 1, 0, 0);
        }
        Caller.sentence("2 (b) TOP is the END of the THING before and the ROOM; of a LINE the ROOM is 0");
        Caller b = Caller.book(10, 200).text(2).head(7, 3, 3).figure(1, 0, 0).text(2).text(1);
        b.stands(0, 1, 0, 10, 0);
        b.stands(1, 0, 0, 23, 3);
        b.stands(2, 0, 0, 30, 0);
        b.stands(3, 0, 0, 31, 0);
        b.stands(3, 1, 0, 41, 0);
        b.stands(4, 0, 0, 51, 0);
        b.bestAre(1, 3, 3, 0, 139);
    }

    /** A line, an item 5 high, a line: 5, 15 and 25 units of room bring the last line into step. */
    private static void roomOfFive(int kind, int least, int most, int room) {
        Caller b = Caller.book(10, 200).text(1);
        b.add(kind, 5, least, most);
        b.text(1);
        b.bestAre(1, room % 10 == 5 ? 0 : 1, room);
        b.stands(1, 0, 0, 10 + room, room);
        b.stands(2, 0, 0, 15 + room, 0);
    }

    private static void leastToMost() {
        Caller.sentence("2 (b) ROOM of a HEAD or a FIGURE that is not FIRST is LEAST to MOST");
        for (int kind = 1; kind <= 2; kind++) {
            int[][] due = {{0, 0, 0}, {0, 4, 0}, {0, 5, 5}, {0, 6, 5}, {0, 30, 5}, {4, 4, 4}, {4, 5, 5}, {5, 5, 5}, {5, 6, 5}, {5, 30, 5},
                {6, 6, 6}, {6, 14, 6}, {6, 15, 15}, {6, 16, 15}, {15, 30, 15}, {16, 24, 16}, {16, 25, 25}, {25, 25, 25}, {25, 30, 25},
                {26, 30, 26}, {29, 30, 29}, {30, 30, 30}};
            for (int[] d : due) roomOfFive(kind, d[0], d[1], d[2]);
        }
        // 20 and 30 and 10 high: 60.
        Caller.sentence("2 (b) ROOM is MOST 30, the greatest there is, where no less will do");
        Caller b = Caller.book(20, 200).text(1).figure(10, 11, 30).text(1);
        b.bestAre(1, 0, 30);
        b.change(1, 3, 29).is(30);
        b.bestAre(1, 1, 11);
    }

    // ---- section 2, (c)

    private static void high() {
        Caller.sentence("2 (c) no END is greater than HIGH: a HEAD or a FIGURE alone");
        for (int kind = 1; kind <= 2; kind++) {
            for (int tall = 12; tall <= 80; tall += 17) {
                Caller b = Caller.book(10, tall);
                b.add(kind, tall, 0, 0);
                b.bestAre(1, 0, 0, 0, 0);
                b.change(0, 1, tall == 80 ? 80 : tall + 1);
                if (tall < 80) b.noLaying();
            }
            Caller b = Caller.book(10, 79);
            b.add(kind, 80, 0, 0);
            b.noLaying();
            b.set(1, 80).is(79);
            b.best(0).is(1);
        }
        Caller.sentence("2 (c) no END is greater than HIGH: a LINE alone");
        for (int grid = 3; grid <= 20; grid++) {
            Caller b = Caller.book(grid, 12).text(1);
            b.best(0).is(grid <= 12 ? 1 : NONE);
            b.fit(1).is(Math.max(12, grid));
        }
        Caller.sentence("2 (c) no END is greater than HIGH: LINES in a row");
        Caller b = new Caller().text(12);
        b.bestAre(1, 0, 0, 0, 0);
        b.set(1, 119).is(120);
        b.bestAre(2, 0, 0, 1, 118);
        b.columnsAre(0, 0, 0, 0, 0, 0, 0, 0, 0, 0, 0, 1, 1);
        b = Caller.book(20, 200).text(10);
        b.bestAre(1, 0, 0, 0, 0);
        b.set(1, 199).is(200);
        b.bestAre(2, 0, 0, 1, 198);
        b.set(1, 200).is(199);
        b.change(0, 1, 11).is(10);
        b.bestAre(2, 0, 0, 1, 180);
        b.place(0, 8, 0).is(0);
        b.place(0, 9, 0).is(1);
    }

    private static void highWithRoom() {
        Caller.sentence("2 (c) no END is greater than HIGH: the ROOM is part of it");
        for (int kind = 1; kind <= 2; kind++) {
            Caller b = Caller.book(10, 120).text(1);
            b.add(kind, 80, 30, 30);
            b.bestAre(1, 0, 30, 0, 0);
            b.stands(1, 0, 0, 40, 30);
            b.set(1, 119).is(120);
            b.bestAre(2, 0, 0, 0, 109 + 39);
            b.stands(1, 0, 1, 0, 0);
        }
        // 5 units of room bring the line behind into step, and it ends at 30.
        Caller.sentence("2 (c) no END is greater than HIGH: a ROOM that brings LINES into step must fit");
        Caller b = Caller.book(10, 30).text(1).figure(5, 0, 30).text(1);
        b.bestAre(1, 0, 5, 0, 0);
        b.set(1, 29).is(30);
        b.bestAre(1, 1, 0, 0, 4);
        b.set(1, 25).is(29);
        b.bestAre(1, 1, 0, 0, 0);
        b.set(1, 24).is(25);
        b.bestAre(2, 0, 0, 0, 24 - 15 + 24 - 10);
        b.stands(1, 0, 0, 10, 0);
    }

    private static void noneAnyMore() {
        Caller.sentence("2 there may be no LAYING at all: none where there was one, one where there was none");
        Caller b = Caller.book(10, 50).text(3).figure(35, 5, 6);
        int[] highs = {50, 34, 35, 29, 60, 12};
        for (int high : highs) {
            b.set(1, high);
            boolean none = high < 35;
            b.best(0).is(none ? NONE : 2);
            b.place(0, 0, 0).is(none ? NONE : 0);
            b.place(1, 0, 3).is(none ? NONE : 0);
            b.column(0, 0).is(none ? NONE : 3);
            b.column(1, 3).is(none ? NONE : 1);
            b.meet(0).is(none ? NONE : 0);
            b.relief(1).is(none ? NONE : 1000);
            b.culprit().is(NONE);
        }
    }

    // ---- section 2, (d)

    private static void behindHead() {
        Caller.sentence("2 (d) the THING behind a HEAD (if there is any): a HEAD may be the last THING");
        Caller b = Caller.book(10, 80).head(80, 0, 0);
        b.best(0).is(1);
        b = Caller.book(10, 80).figure(80, 0, 0).head(80, 0, 0);
        b.best(0).is(2);
        b = Caller.book(10, 80).figure(70, 0, 0).head(10, 0, 0);
        b.best(0).is(1);
        for (int kind = 0; kind <= 2; kind++) {
            Caller.sentence("2 (d) the THING behind a HEAD is not FIRST, KIND " + kind);
            int size = kind == 0 ? 1 : 10;
            b = Caller.book(10, 39).head(30, 0, 0);
            b.add(kind, size, 0, 0);
            b.noLaying();
            b.set(1, 40);
            b.bestAre(1, 0, 0, 0, 0);
            // A figure before them: the head does not stay with it, though there is room for it.
            b.add(2, 10, 0, 0);
            b.move(2, 0);
            b.set(1, 49);
            b.best(0).is(2);
            b.stands(1, 0, 1, 0, 0);
            b.stands(2, 0, 1, 30, 0);
            b.set(1, 50);
            b.best(0).is(1);
        }
        Caller.sentence("2 (d) HEADS in a row stand in one COLUMN, with the THING behind them");
        b = Caller.book(10, 49).figure(20, 0, 0).head(10, 0, 0).head(10, 0, 0).text(1);
        b.best(0).is(2);
        b.columnsAre(1, 1);
        b.columnsAre(2, 1);
        b.columnsAre(3, 1);
        b.set(1, 29);
        b.noLaying();
        b.set(1, 30);
        b.best(0).is(2);
        Caller.sentence("2 (d) 12 HEADS are one COLUMN or none");
        b = Caller.book(10, 196);
        for (int i = 0; i < 12; i++) b.head(2, 4, 30);
        b.set(1, 68);
        b.bestAre(1, 0, 44, 0, 0);
        b.set(1, 67);
        b.noLaying();
        b.fit(150).is(68);
        Caller.sentence("2 (d) behind a FIGURE a COLUMN may begin");
        b = Caller.book(10, 30).figure(30, 0, 0).text(3).figure(30, 0, 0).head(20, 0, 0).text(1);
        b.bestAre(4, 0, 0, 0, 0);
        Caller.sentence("2 (d) a TEXT behind a HEAD may break, but not before its first LINE");
        b = Caller.book(10, 40).head(20, 0, 0).text(4);
        b.bestAre(2, 0, 0, 1, 20);
        b.columnsAre(1, 0, 0, 1, 1);
        b.set(1, 39);
        b.noLaying();
    }

    // ---- section 2, (e)

    private static void twoBefore() {
        Caller.sentence("2 (e) a broken TEXT has at least 2 LINES in the COLUMN before and 1 behind the break");
        // How many columns of two lines, and of three.
        int[] two = {0, 1, 1, NONE, 2, NONE, 3, NONE, 4, NONE, 5, NONE, 6};
        int[] three = {0, 1, 1, 1, 2, 2, 2, 3, 3, 3, 4, 4, 4};
        for (int lines = 1; lines <= 12; lines++) {
            Caller b = Caller.book(10, 20).text(lines);
            b.best(0).is(two[lines]);
            b.best(3).is(two[lines] == NONE ? NONE : two[lines] - 1);
            b.set(1, 29);
            b.best(0).is(two[lines]);
            b.set(1, 30);
            b.best(0).is(three[lines]);
            b.best(3).is(three[lines] - 1);
            b.set(1, 19);
            b.best(0).is(lines == 1 ? 1 : NONE);
        }
        Caller.sentence("2 (e) at least 2 LINES of its TEXT: a FIGURE does not count");
        Caller b = Caller.book(10, 20).figure(10, 0, 0).text(4);
        b.bestAre(3, 0, 0, 1, 10);
        b.columnsAre(1, 1, 1, 2, 2);
        b.set(1, 30);
        b.bestAre(2, 0, 0, 1, 10);
        b.columnsAre(1, 0, 0, 1, 1);
        Caller.sentence("2 (e) at least 2 LINES of its TEXT: a LINE of another TEXT does not count");
        b = Caller.book(10, 20).text(1).text(4);
        b.bestAre(3, 0, 0, 1, 10);
        b.columnsAre(1, 1, 1, 2, 2);
        b.set(1, 30);
        b.bestAre(2, 0, 0, 1, 10);
        b.columnsAre(1, 0, 0, 1, 1);
        Caller.sentence("2 (e) at least 2 LINES in the COLUMN before, at each break of a TEXT");
        b = Caller.book(10, 30).text(7);
        b.columnsAre(0, 0, 0, 0, 1, 1, 2, 2);
        b = Caller.book(10, 30).text(8);
        b.columnsAre(0, 0, 0, 0, 1, 1, 1, 2, 2);
        b = Caller.book(10, 30).figure(10, 0, 0).text(10);
        b.columnsAre(1, 0, 0, 1, 1, 1, 2, 2, 2, 3, 3);
        b.best(0).is(4);
    }

    private static void oneBehind() {
        Caller.sentence("2 (e) at least 1 LINE of its TEXT behind it");
        Caller b = Caller.book(10, 30).figure(10, 0, 0).text(3);
        b.bestAre(2, 0, 0, 0, 20);
        b.columnsAre(1, 1, 1, 1);
        b.change(1, 1, 4).is(3);
        b.bestAre(2, 0, 0, 1, 10);
        b.columnsAre(1, 0, 0, 1, 1);
        // A line of the next text is none of its own: 4 lines, then 1, where 4 lines fit with it.
        Caller.sentence("2 (e) at least 1 LINE of its TEXT behind it: a LINE of another TEXT does not count");
        b = Caller.book(10, 30).text(4).text(1);
        b.bestAre(2, 0, 0, 1, 10);
        b.columnsAre(0, 0, 0, 1, 1);
        b.columnsAre(1, 1);
        Caller.sentence("2 (e) the first LINE of a TEXT may be FIRST, with none behind it and any before it");
        b = Caller.book(12, 12);
        for (int i = 0; i < 12; i++) b.text(1);
        b.bestAre(12, 0, 0, 0, 0);
        b = Caller.book(10, 30).text(2).text(2);
        b.bestAre(2, 0, 0, 0, 20);
        b.columnsAre(1, 1, 1);
        b = Caller.book(10, 20).figure(15, 0, 0).text(1);
        b.bestAre(2, 0, 0, 0, 15);
    }

    // ---- section 2, OUT and THE BEST

    private static void out() {
        Caller.sentence("2 a LINE is OUT, if GRID does not divide its TOP");
        for (int grid = 3; grid <= 20; grid++) {
            for (int tall = 1; tall <= 80; tall++) {
                Caller b = Caller.book(grid, 200).figure(tall, 0, 0).text(2);
                int due = tall % grid == 0 ? 0 : 2;
                b.best(1).is(due);
                b.column(0, 2).is(due);
                b.place(1, 0, 3).is(tall % grid);
                b.place(1, 1, 3).is(tall % grid);
            }
        }
        Caller.sentence("2 HEADS and FIGURES are not OUT; a LINE at TOP 0 is not");
        Caller b = Caller.book(10, 200).text(1).head(7, 3, 3).figure(6, 2, 2).figure(8, 1, 1);
        b.bestAre(1, 0, 6, 0, 200 - 37);
        b.column(0, 2).is(0);
        b.place(1, 0, 3).is(3);
        b.place(0, 0, 3).is(0);
    }

    private static void theBest() {
        // The two lines are in step in a column of their own; but they fit behind the figure.
        Caller.sentence("2 THE BEST is of the fewest COLUMNS, before LINES that are OUT");
        Caller b = Caller.book(10, 35).figure(15, 0, 0).text(2);
        b.bestAre(1, 2, 0, 0, 0);
        b.set(1, 34).is(35);
        b.bestAre(2, 0, 0, 0, 19 + 14);
        Caller.sentence("2 THE BEST is of the fewest COLUMNS, before ROOM");
        b = Caller.book(10, 70).text(2).figure(20, 30, 30);
        b.bestAre(1, 0, 30, 0, 0);
        Caller.sentence("2 THE BEST has the fewest LINES that are OUT, before ROOM");
        b = Caller.book(10, 200).text(1).figure(11, 0, 30).text(1);
        b.bestAre(1, 0, 9);
        b.change(1, 3, 8).is(30);
        b.bestAre(1, 1, 0);
        // Two columns anyhow. A break before the first figure saves its room, and the last one fits behind it.
        Caller.sentence("2 THE BEST has the least sum of ROOMS, before that which is not FIRST");
        b = Caller.book(10, 30).text(1).figure(10, 1, 1).figure(20, 0, 0);
        b.bestAre(2, 0, 0, 0, 20);
        b.stands(1, 0, 1, 0, 0);
        b.change(1, 2, 0).is(1);
        b.bestAre(2, 0, 0, 0, 20);
        b.stands(1, 0, 0, 10, 0);
        b.stands(2, 0, 1, 0, 0);
        // Two lines could stand behind the figure, and two in the next column; all four are in step there.
        Caller.sentence("2 THE BEST has the fewest LINES that are OUT, before that which is not FIRST");
        b = Caller.book(10, 40).figure(5, 0, 0).text(4);
        b.bestAre(2, 0, 0, 0, 35);
        b.columnsAre(1, 1, 1, 1, 1);
        b.change(0, 1, 10).is(5);
        b.bestAre(2, 0, 0, 1, 10 + 20);
        b.columnsAre(1, 0, 0, 1, 1);
    }

    private static void theFirstOne() {
        Caller.sentence("2 of these the first one: not FIRST comes before FIRST, at the first THING not alike");
        Caller b = Caller.book(10, 40).text(6);
        b.columnsAre(0, 0, 0, 0, 0, 1, 1);
        b = Caller.book(10, 40).text(9);
        b.columnsAre(0, 0, 0, 0, 0, 1, 1, 1, 2, 2);
        b = Caller.book(10, 30).figure(10, 0, 0).figure(10, 0, 0).figure(10, 0, 0).figure(10, 0, 0);
        b.columnsAre(2, 0);
        b.columnsAre(3, 1);
        b = Caller.book(10, 30).text(2).text(1).text(2);
        b.columnsAre(1, 0);
        b.columnsAre(2, 1, 1);
        Caller.sentence("2 of these the first one: FIRST in neither, that in which its ROOM is less");
        b = Caller.book(10, 200).text(1).figure(1, 0, 4).figure(1, 0, 4).figure(1, 0, 4).text(1);
        b.bestAre(1, 0, 7, 0, 200 - 30);
        b.stands(1, 0, 0, 10, 0);
        b.stands(2, 0, 0, 14, 3);
        b.stands(3, 0, 0, 19, 4);
        b.change(3, 3, 2).is(4);
        b.stands(1, 0, 0, 11, 1);
        b.stands(2, 0, 0, 16, 4);
        b.stands(3, 0, 0, 19, 2);
    }

    // ---- section 3 and promise 11

    private static void pages() {
        Caller.sentence("3 COLUMNS 2p and 2p + 1 are those of page p");
        Caller b = Caller.book(10, 30).figure(30, 0, 0).text(3).text(3).figure(30, 0, 0);
        b.best(0).is(4);
        b.meet(0).is(0);
        b.meet(1).is(0);
        b.meet(2).is(NONE);
        b.move(0, 3);
        b.meet(0).is(3);
        b.meet(1).is(0);
        b.move(0, 3);
        b.move(0, 3);
        b.meet(0).is(0);
        b.meet(1).is(3);
        // Three full columns: the lines of the third one stand beside none of the first.
        b = Caller.book(10, 30).text(3).text(1).figure(20, 0, 0).figure(10, 0, 0).text(2);
        b.bestAre(3, 0, 0, 0, 0);
        b.meet(0).is(1);
        b.meet(1).is(0);
        Caller.sentence("11 meet, NONE: no COLUMN of it has any THING");
        b = Caller.book(12, 24);
        for (int i = 0; i < 12; i++) b.text(12);
        b.best(0).is(72);
        b.meet(35).is(2);
        b.meet(36).is(NONE);
        b.change(11, 1, 10).is(12);
        b.best(0).is(71);
        b.meet(34).is(2);
        b.meet(35).is(0);
        b.meet(36).is(NONE);
        b.change(11, 1, 8).is(10);
        b.best(0).is(70);
        b.meet(35).is(NONE);
    }

    private static void lines() {
        Caller.sentence("3 LINES MEET, if their TOPS are the same");
        // A column of a figure and two lines beside one of three lines: tops 5, 15 and 0, 10, 20.
        Caller b = Caller.book(10, 30).figure(5, 0, 0).text(2).text(3);
        b.best(0).is(2);
        b.meet(0).is(0);
        b.change(0, 1, 10).is(5);
        b.meet(0).is(2);
        // Behind 10 and 20 units of figures: the lines at 20 meet alone.
        b = Caller.book(10, 40).figure(10, 0, 0).text(3).figure(20, 0, 0).text(2);
        b.best(0).is(2);
        b.meet(0).is(2);
        b.change(2, 1, 21).is(20);
        b.set(1, 41);
        b.meet(0).is(0);
        // Tops 11 beside 0 and 11, with a figure 1 high between these.
        b = Caller.book(10, 21).figure(11, 0, 0).text(1).text(1).figure(1, 0, 0).text(1);
        b.best(0).is(2);
        b.meet(0).is(1);
        b.move(0, 4);
        b.move(0, 4);
        b.best(0).is(2);
        b.meet(0).is(1);
        Caller.sentence("3 LINES that are OUT MEET too; HEADS and FIGURES do not, nor a LINE and a HEAD");
        b = Caller.book(10, 27).figure(7, 0, 0).text(2).head(7, 0, 0).text(2);
        b.bestAre(2, 4);
        b.meet(0).is(2);
        b = Caller.book(10, 20).text(2).head(10, 0, 0).text(1);
        b.best(0).is(2);
        b.meet(0).is(1);
        b = Caller.book(10, 20).figure(10, 0, 0).text(1).figure(10, 0, 0).figure(10, 0, 0);
        b.best(0).is(2);
        b.meet(0).is(0);
        b = Caller.book(10, 20).text(1).figure(10, 0, 0).figure(10, 0, 0).text(1);
        b.best(0).is(2);
        b.meet(0).is(0);
        b.move(3, 2);
        b.meet(0).is(1);
    }

    // ---- RELIEF, promises 12 and 13

    private static void relief() {
        Caller.sentence("3 RELIEF: if its MOST were 30, no more");
        Caller b = Caller.book(20, 200).text(1).figure(10, 11, 29).text(3);
        b.best(1).is(3);
        b.relief(1).is(1003);
        b.culprit().is(1);
        // Now it would take 31.
        b.change(1, 1, 9).is(10);
        b.change(1, 2, 12).is(11);
        b.best(1).is(3);
        b.relief(1).is(1000);
        b.culprit().is(NONE);
        b.item(1, 3).is(29);
        Caller.sentence("3 RELIEF is none where MOST is 30");
        b.change(1, 3, 30).is(29);
        b.relief(1).is(1000);
        b.culprit().is(NONE);
        Caller.sentence("3 RELIEF is none by the first THING, which has no ROOM, nor by the last one");
        for (int kind = 1; kind <= 2; kind++) {
            b = Caller.book(10, 200);
            b.add(kind, 7, 0, 0);
            b.text(2);
            b.add(kind, 7, 0, 0);
            b.best(1).is(2);
            b.relief(0).is(1000);
            b.relief(2).is(1000);
            b.culprit().is(NONE);
        }
        // The line behind would end at 30 in step, at 25 as it is.
        Caller.sentence("3 RELIEF is none where its ROOM has no place in the fewest COLUMNS");
        b = Caller.book(10, 30).text(1).figure(5, 0, 0).text(1);
        b.relief(1).is(1001);
        b.set(1, 29);
        b.best(1).is(1);
        b.relief(1).is(1000);
        b.culprit().is(NONE);
    }

    private static void reliefOfMany() {
        Caller.sentence("12 relief, 1000 added, of 60 LINES; 13 culprit");
        Caller b = Caller.book(3, 186).text(1).head(1, 0, 0);
        for (int i = 0; i < 5; i++) b.text(12);
        b.bestAre(1, 60, 0, 0, 2);
        b.relief(1).is(1060);
        b.culprit().is(1);
        b.set(1, 185).is(186);
        b.relief(1).is(1000);
        b.culprit().is(NONE);
        Caller.sentence("12 relief, NONE: there is no LAYING as things are; OUTSIDE: it is a TEXT");
        b.set(0, 20);
        b.set(1, 12);
        b.noLaying();
        b.relief(1).is(NONE);
        b.relief(0).is(OUTSIDE);
        b.relief(7).is(UNKNOWN);
        b.culprit().is(NONE);
        Caller.sentence("13 culprit, NONE: there is none of 12 ITEMS by which it is above 0");
        b = Caller.book(10, 200).head(7, 0, 0);
        for (int i = 1; i < 12; i++) b.text(1);
        b.bestAre(1, 11, 0, 0, 200 - 117);
        b.culprit().is(NONE);
        b.change(1, 1, 2).is(1);
        b.culprit().is(NONE);
        Caller.sentence("13 culprit, by which there is most RELIEF, the least of such");
        b = Caller.book(10, 200).text(1).figure(9, 0, 0).text(1).figure(9, 0, 0).text(1);
        // Lines at 19 and 38: the first one by 1 and the second by 2 more; or the second alone.
        b.best(1).is(2);
        b.relief(1).is(1001);
        b.relief(3).is(1001);
        b.culprit().is(1);
        b.change(4, 1, 2).is(1);
        b.relief(1).is(1002);
        b.relief(3).is(1002);
        b.culprit().is(1);
        b.change(1, 3, 1).is(0);
        b.best(1).is(2);
        b.relief(3).is(1002);
        b.culprit().is(3);
        b.change(3, 3, 1).is(0);
        b.best(1).is(0);
        b.culprit().is(NONE);
    }

    // ---- promises 4 and 5

    private static Caller twelve() {
        Caller b = new Caller();
        for (int i = 0; i < 12; i++) b.figure(1 + i, i, i + 10);
        return b;
    }

    private static void talls(Caller b, int... due) {
        b.count(0).is(due.length);
        for (int i = 0; i < due.length; i++) {
            b.item(i, 1).is(due[i]);
            b.item(i, 2).is(due[i] - 1);
            b.item(i, 3).is(due[i] + 9);
        }
        b.item(due.length, 1).is(UNKNOWN);
    }

    private static void order() {
        Caller.sentence("4 remove, those behind it are one less: the first and the last of 12");
        Caller b = twelve();
        b.remove(0).is(11);
        talls(b, 2, 3, 4, 5, 6, 7, 8, 9, 10, 11, 12);
        b.remove(10).is(10);
        talls(b, 2, 3, 4, 5, 6, 7, 8, 9, 10, 11);
        b.remove(4).is(9);
        talls(b, 2, 3, 4, 5, 7, 8, 9, 10, 11);
        Caller.sentence("5 move, to the first place and to the last, the others in their order");
        b = twelve();
        b.move(0, 11).is(1);
        talls(b, 2, 3, 4, 5, 6, 7, 8, 9, 10, 11, 12, 1);
        b.move(11, 0).is(1);
        talls(b, 1, 2, 3, 4, 5, 6, 7, 8, 9, 10, 11, 12);
        b.move(11, 11).is(1);
        b.move(0, 0).is(1);
        b.move(3, 7).is(1);
        talls(b, 1, 2, 3, 5, 6, 7, 8, 4, 9, 10, 11, 12);
        b.move(9, 8).is(1);
        talls(b, 1, 2, 3, 5, 6, 7, 8, 4, 10, 9, 11, 12);
    }

    // ---- promise 14

    private static void fit() {
        Caller.sentence("14 fit, the least HIGH is 12 or more");
        for (int tall = 1; tall <= 80; tall++) {
            Caller b = new Caller().figure(tall, 0, 0);
            b.fit(1).is(Math.max(12, tall));
            b.fit(0).is(NONE);
        }
        Caller.sentence("14 fit, the least HIGH is 200 or less");
        Caller b = new Caller().figure(60, 0, 0).figure(60, 30, 30).figure(50, 0, 0);
        b.fit(1).is(200);
        b.fit(2).is(110);
        b.fit(3).is(60);
        b.change(2, 1, 51).is(50);
        b.fit(1).is(NONE);
        b.fit(2).is(111);
        b.change(2, 1, 49).is(51);
        b.fit(1).is(199);
        Caller.sentence("14 fit, no more than n COLUMNS, all else as it is");
        b = Caller.book(12, 12);
        for (int i = 0; i < 12; i++) b.text(12);
        b.fit(150).is(24);
        b.fit(72).is(24);
        b.fit(71).is(36);
        b.fit(48).is(36);
        b.fit(0).is(NONE);
        b.fit(-1).is(OUTSIDE);
        b.fit(151).is(OUTSIDE);
        b.count(3).is(12);
        b.noLaying();
        for (int high = 12; high <= 200; high += 47) {
            b.set(1, high);
            b.fit(48).is(36);
        }
    }

    // ---- promises 15 and 16

    private static void images() {
        Caller.sentence("15 image, 16 restore: no ITEMS are kept as well, which is not nothing kept");
        Caller b = new Caller();
        b.image(0).is(1);
        b.text(12).figure(80, 0, 30);
        b.set(0, 3);
        b.set(1, 12);
        b.noLaying();
        b.restore(1).is(STATE);
        b.restore(0).is(1);
        holdsNothing(b, 10, 120, 1);
        b.add(0, 1, 0, 0).is(0);
        Caller.sentence("15 image, 16 restore: 12 ITEMS are kept");
        b = twelve();
        b.set(0, 20);
        b.set(1, 200);
        b.image(1).is(1);
        for (int i = 11; i >= 0; i--) b.remove(0).is(i);
        b.set(0, 3);
        b.set(1, 12);
        b.restore(0).is(STATE);
        b.restore(1).is(1);
        talls(b, 1, 2, 3, 4, 5, 6, 7, 8, 9, 10, 11, 12);
        b.count(2).is(20);
        b.count(3).is(200);
        b.count(4).is(2);
        b.add(0, 1, 0, 0).is(FULL);
        Caller.sentence("15 image, 16 restore: ITEMS with all that they are");
        b = Caller.book(7, 90).text(5).figure(80, 0, 30).head(12, 3, 4);
        b.image(0).is(1);
        for (int i = 0; i < 3; i++) b.remove(0);
        b.figure(1, 1, 1).head(2, 2, 2).text(3).text(4);
        b.restore(0).is(1);
        int[][] due = {{0, 5, 0, 0}, {2, 80, 0, 30}, {1, 12, 3, 4}};
        for (int i = 0; i < 3; i++) {
            for (int what = 0; what <= 3; what++) b.item(i, what).is(due[i][what]);
        }
        b.count(0).is(3);
        b.count(10).is(1);
        b.count(11).is(1);
        b.count(12).is(1);
        Caller.sentence("15 image, in place of what was kept there; the other IMAGE stays");
        b = new Caller().text(3);
        b.image(0).is(1);
        b.text(4).image(1).is(1);
        b.text(5).image(0).is(1);
        b.count(4).is(3);
        b.restore(1).is(1);
        b.count(0).is(2);
        b.restore(0).is(1);
        b.count(0).is(3);
        b.item(2, 1).is(5);
        Caller.sentence("16 restore: the IMAGE stays, whatever is done to what was restored");
        b.change(2, 1, 9).is(5);
        b.remove(0).is(2);
        b.set(0, 5);
        b.restore(0).is(1);
        b.count(0).is(3);
        b.item(0, 1).is(3);
        b.item(2, 1).is(5);
        b.count(2).is(10);
        b.restore(0).is(1);
        b.count(4).is(3);
    }

    public static void main(String[] args) {
        lastCall();
        nothing();
        things();
        columnsInOrder();
        ofColumns();
        rooms();
        leastToMost();
        high();
        highWithRoom();
        noneAnyMore();
        behindHead();
        twoBefore();
        oneBehind();
        out();
        theBest();
        theFirstOne();
        pages();
        lines();
        relief();
        reliefOfMany();
        order();
        fit();
        images();
        Caller.end();
    }
}
