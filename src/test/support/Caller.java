import java.util.ArrayList;
import java.util.List;

/**
 * One new object, and the run of calls that it has been asked. An object that is asked more than
 * 512 calls is a fault of the test, as the document leaves free what it answers then.
 */
final class Caller {
    static final int UNKNOWN = -1, OUTSIDE = -2, STATE = -3, FULL = -4, NONE = -6;
    static final int LOW = Integer.MIN_VALUE, GREAT = Integer.MAX_VALUE;
    private static final int MOST_CALLS = 512, MOST_PRINTED = 20;

    private static String sentence = "";
    private static int checks = 0, checksOfSentence = 1, sentences = 0, wrong = 0;

    private final StepColumns x = new StepColumns();
    private final StringBuilder run = new StringBuilder("a new object");
    int calls = 0;

    /** What follows tests this sentence of the document. */
    static void sentence(String words) {
        closeSentence();
        sentence = words;
        sentences++;
        checksOfSentence = 0;
    }

    private static void closeSentence() {
        if (checksOfSentence == 0) fault("no answer was looked at");
    }

    static void fault(String what) {
        if (wrong++ < MOST_PRINTED) System.out.println("[" + sentence + "] " + what);
    }

    /** To be called last: ends the program with exit code 1 if an answer was not as due. */
    static void end() {
        closeSentence();
        System.out.println(sentences + " sentences, " + checks + " answers");
        System.out.println(wrong == 0 ? "all answers are as due" : wrong + " answers are not as due");
        if (wrong != 0) System.exit(1);
    }

    /** An answer, with the run that led to it. */
    final class Answer {
        final int value;

        Answer(int value) {
            this.value = value;
        }

        void is(int want) {
            checks++;
            checksOfSentence++;
            if (value != want) fault(run + "\n    due is " + want);
        }
    }

    private Answer told(int answer, String name, int... numbers) {
        if (++calls > MOST_CALLS) fault("more than " + MOST_CALLS + " calls of one object");
        run.append(", ").append(name).append('(');
        for (int i = 0; i < numbers.length; i++) run.append(i == 0 ? "" : " ").append(numbers[i]);
        run.append(") = ").append(answer);
        return new Answer(answer);
    }

    Answer add(int kind, int size, int least, int most) {
        return told(x.add(kind, size, least, most), "add", kind, size, least, most);
    }

    Answer change(int item, int what, int n) {
        return told(x.change(item, what, n), "change", item, what, n);
    }

    Answer remove(int item) {
        return told(x.remove(item), "remove", item);
    }

    Answer move(int item, int to) {
        return told(x.move(item, to), "move", item, to);
    }

    Answer set(int what, int n) {
        return told(x.set(what, n), "set", what, n);
    }

    Answer item(int item, int what) {
        return told(x.item(item, what), "item", item, what);
    }

    Answer best(int what) {
        return told(x.best(what), "best", what);
    }

    Answer place(int item, int k, int what) {
        return told(x.place(item, k, what), "place", item, k, what);
    }

    Answer column(int c, int what) {
        return told(x.column(c, what), "column", c, what);
    }

    Answer meet(int p) {
        return told(x.meet(p), "meet", p);
    }

    Answer relief(int item) {
        return told(x.relief(item), "relief", item);
    }

    Answer culprit() {
        return told(x.culprit(), "culprit");
    }

    Answer fit(int n) {
        return told(x.fit(n), "fit", n);
    }

    Answer image(int k) {
        return told(x.image(k), "image", k);
    }

    Answer restore(int k) {
        return told(x.restore(k), "restore", k);
    }

    Answer count(int what) {
        return told(x.count(what), "count", what);
    }

    // ---- books in short

    static Caller book(int grid, int high) {
        Caller b = new Caller();
        b.set(0, grid);
        b.set(1, high);
        return b;
    }

    Caller text(int lines) {
        add(0, lines, 0, 0);
        return this;
    }

    Caller head(int tall, int least, int most) {
        add(1, tall, least, most);
        return this;
    }

    Caller figure(int tall, int least, int most) {
        add(2, tall, least, most);
        return this;
    }

    /** best(0), best(1), and so on. */
    void bestAre(int... wants) {
        for (int what = 0; what < wants.length; what++) best(what).is(wants[what]);
    }

    /** In which column each line of a text stands, or another item. */
    void columnsAre(int item, int... wants) {
        for (int k = 0; k < wants.length; k++) place(item, k, 0).is(wants[k]);
    }

    /** Column, top and room of a thing. */
    void stands(int item, int k, int column, int top, int room) {
        place(item, k, 0).is(column);
        place(item, k, 1).is(top);
        place(item, k, 2).is(room);
    }

    void noLaying() {
        for (int what = 0; what <= 4; what++) best(what).is(NONE);
    }

    // ---- all that an object tells; some 30 calls, 9 for each item and 5 for each column

    List<Integer> tellsAll() {
        List<Integer> all = new ArrayList<>();
        int[] counts = {0, 1, 2, 3, 4, 10, 11, 12};
        for (int what : counts) all.add(count(what).value);
        for (int what = 0; what <= 4; what++) all.add(best(what).value);
        int items = all.get(0), columns = all.get(counts.length);
        for (int i = 0; i < items; i++) tellsItem(i, all);
        for (int c = 0; c < columns; c++) {
            for (int what = 0; what <= 4; what++) all.add(column(c, what).value);
        }
        for (int p = 0; 2 * p < columns; p++) all.add(meet(p).value);
        all.add(culprit().value);
        int[] fits = {0, 1, 2, 3, 150};
        for (int n : fits) all.add(fit(n).value);
        return all;
    }

    private void tellsItem(int i, List<Integer> all) {
        for (int what = 0; what <= 3; what++) all.add(item(i, what).value);
        for (int what = 0; what <= 2; what++) all.add(place(i, 0, what).value);
        int last = item(i, 0).value == 0 ? item(i, 1).value - 1 : 0;
        all.add(place(i, last, 0).value);
        all.add(place(i, last, 1).value);
        all.add(relief(i).value);
    }

    /** Both tell the same of all that can be asked. */
    void tellsAs(Caller other) {
        checks++;
        checksOfSentence++;
        List<Integer> mine = tellsAll(), others = other.tellsAll();
        if (!mine.equals(others)) fault(run + "\n    is not told as\n" + other.run);
    }
}
