import java.util.ArrayList;
import java.util.List;
import java.util.function.Consumer;
import java.util.function.Function;
import java.util.function.Supplier;

/**
 * Calls that are refused: which refusal is answered where several fit, and that none of them
 * changes anything; and that all is told as things are when it is asked.
 */
public final class RefusalTest {
    private static final int UNKNOWN = Caller.UNKNOWN, OUTSIDE = Caller.OUTSIDE, STATE = Caller.STATE;
    private static final int FULL = Caller.FULL, NONE = Caller.NONE, LOW = Caller.LOW, GREAT = Caller.GREAT;

    // ---- the books that calls are refused by: item 0 is a text, item 1 a figure with room 4 to 9

    private static Caller empty() {
        return new Caller();
    }

    private static Caller few() {
        Caller b = Caller.book(9, 70).text(5).figure(13, 4, 9).text(6).head(8, 0, 3).text(4);
        b.image(0);
        b.change(0, 1, 6);
        b.set(0, 8);
        b.move(4, 2);
        return b;
    }

    private static Caller full() {
        Caller b = Caller.book(7, 60).text(3).figure(14, 4, 9);
        b.image(1);
        for (int i = 2; i < 12; i++) b.add(i % 3, 1 + i, 0, i);
        b.set(1, 80);
        b.image(0);
        b.set(1, 75);
        return b;
    }

    private static Caller withoutLaying() {
        Caller b = Caller.book(20, 100).text(3).figure(30, 4, 9);
        b.image(1);
        b.set(1, 19);
        return b;
    }

    // ---- the calls that are refused, of a book with so many items

    private static final class Refused {
        final int due;
        final Function<Caller, Caller.Answer> call;

        Refused(int due, Function<Caller, Caller.Answer> call) {
            this.due = due;
            this.call = call;
        }
    }

    private static void refuse(List<Refused> all, int due, Function<Caller, Caller.Answer> call) {
        all.add(new Refused(due, call));
    }

    private static List<Refused> ofAnyBook(int items) {
        List<Refused> all = new ArrayList<>();
        int[][] adds = {{-1, 1, 0, 0}, {3, 1, 0, 0}, {0, 0, 0, 0}, {0, 13, 0, 0}, {1, 0, 0, 0}, {1, 81, 0, 0}, {2, 0, 0, 0},
            {2, 81, 0, 0}, {1, 5, -1, 3}, {2, 5, 0, 31}, {1, 5, 31, 31}, {2, 5, 0, -1}, {1, 5, 6, 5}, {2, GREAT, LOW, GREAT}};
        for (int[] a : adds) refuse(all, OUTSIDE, b -> b.add(a[0], a[1], a[2], a[3]));
        int[] unknown = {-1, items, 12, LOW, GREAT};
        for (int i : unknown) {
            refuse(all, UNKNOWN, b -> b.change(i, 1, 1));
            refuse(all, UNKNOWN, b -> b.remove(i));
            refuse(all, UNKNOWN, b -> b.move(i, 0));
            refuse(all, UNKNOWN, b -> b.item(i, 0));
            refuse(all, UNKNOWN, b -> b.place(i, 0, 0));
            refuse(all, UNKNOWN, b -> b.relief(i));
        }
        int[][] sets = {{-1, 15}, {2, 15}, {0, 2}, {0, 21}, {1, 11}, {1, 201}, {0, LOW}, {1, GREAT}};
        for (int[] a : sets) refuse(all, OUTSIDE, b -> b.set(a[0], a[1]));
        int[] outside = {-1, 5, 9, 13, LOW, GREAT};
        for (int n : outside) {
            refuse(all, OUTSIDE, b -> b.best(n));
            refuse(all, OUTSIDE, b -> b.column(0, n));
            refuse(all, OUTSIDE, b -> b.count(n));
        }
        int[] far = {-1, 151, LOW, GREAT};
        for (int n : far) {
            refuse(all, OUTSIDE, b -> b.fit(n));
            refuse(all, OUTSIDE, b -> b.image(n));
            refuse(all, OUTSIDE, b -> b.restore(n));
        }
        refuse(all, OUTSIDE, b -> b.image(2));
        refuse(all, OUTSIDE, b -> b.restore(2));
        return all;
    }

    private static List<Refused> ofItems(int items) {
        List<Refused> all = new ArrayList<>();
        int[][] changes = {{0, 0, 1}, {0, 4, 1}, {0, 1, 0}, {0, 1, 13}, {0, 2, 0}, {0, 3, 0}, {0, 3, 30}, {1, 0, 1}, {1, 4, 1},
            {1, 1, 0}, {1, 1, 81}, {1, 2, -1}, {1, 2, 31}, {1, 2, 10}, {1, 3, -1}, {1, 3, 31}, {1, 3, 3}, {1, 1, LOW}, {1, 3, GREAT}};
        for (int[] a : changes) refuse(all, OUTSIDE, b -> b.change(a[0], a[1], a[2]));
        int[] places = {-1, items, 12, LOW, GREAT};
        for (int to : places) {
            refuse(all, OUTSIDE, b -> b.move(0, to));
            refuse(all, OUTSIDE, b -> b.move(1, to));
        }
        int[] whats = {-1, 4, LOW, GREAT};
        for (int what : whats) {
            refuse(all, OUTSIDE, b -> b.item(1, what));
            refuse(all, OUTSIDE, b -> b.place(1, 0, what));
        }
        refuse(all, OUTSIDE, b -> b.relief(0));
        return all;
    }

    // ---- what is refused changes nothing

    /** Two alike, of which one is refused a call, tell the same: now, and when an image is restored. */
    private static void changesNothing(Supplier<Caller> make, Refused r) {
        int kept = make.get().count(4).value;
        for (int k = -1; k <= 1; k++) {
            if (k >= 0 && (kept >> k & 1) == 0) continue;
            Caller refused = make.get(), other = make.get();
            // What has been asked before is asked again: it must be told no other than then.
            refused.best(0);
            r.call.apply(refused).is(r.due);
            if (k >= 0) {
                refused.restore(k).is(1);
                other.restore(k).is(1);
            }
            refused.tellsAs(other);
        }
    }

    private static void refusedOf(String name, Supplier<Caller> make, List<Refused> calls) {
        Caller.sentence("What is refused changes nothing: " + name);
        for (Refused r : calls) changesNothing(make, r);
    }

    private static void nothingIsChanged() {
        refusedOf("no ITEMS", RefusalTest::empty, ofAnyBook(0));
        refusedOf("5 ITEMS", RefusalTest::few, ofAnyBook(5));
        refusedOf("5 ITEMS, of an ITEM", RefusalTest::few, ofItems(5));
        refusedOf("12 ITEMS", RefusalTest::full, ofAnyBook(12));
        refusedOf("12 ITEMS, of an ITEM", RefusalTest::full, ofItems(12));
        refusedOf("no LAYING", RefusalTest::withoutLaying, ofAnyBook(2));
        refusedOf("no LAYING, of an ITEM", RefusalTest::withoutLaying, ofItems(2));
        List<Refused> adds = new ArrayList<>();
        for (int kind = 0; kind <= 2; kind++) {
            int k = kind;
            refuse(adds, FULL, b -> b.add(k, 1, 0, 0));
            refuse(adds, FULL, b -> b.add(k, 12, 30, 30));
        }
        refusedOf("FULL", RefusalTest::full, adds);
        List<Refused> restores = new ArrayList<>();
        refuse(restores, STATE, b -> b.restore(1));
        refusedOf("STATE, IMAGE 1", RefusalTest::few, restores);
        refusedOf("STATE, IMAGE 1, no ITEMS", RefusalTest::empty, restores);
        List<Refused> others = new ArrayList<>();
        refuse(others, STATE, b -> b.restore(0));
        refusedOf("STATE, IMAGE 0", RefusalTest::withoutLaying, others);
        refusedOf("STATE, IMAGE 0, no ITEMS", RefusalTest::empty, others);
    }

    // ---- what is asked changes nothing either

    private static void askingChangesNothing() {
        Caller.sentence("RELIEF, fit: all else as it is; asking changes nothing");
        List<Supplier<Caller>> books = List.of(RefusalTest::empty, RefusalTest::few, RefusalTest::full, RefusalTest::withoutLaying);
        List<Consumer<Caller>> asks = List.of(b -> b.relief(1), Caller::culprit, b -> b.fit(0), b -> b.fit(1), b -> b.fit(150),
            b -> b.best(0), b -> b.place(1, 0, 1), b -> b.column(0, 0), b -> b.meet(0), b -> b.item(1, 1), b -> b.count(1),
            b -> b.place(0, 99, 0), b -> b.column(99, 0), b -> b.meet(99));
        for (Supplier<Caller> make : books) {
            for (Consumer<Caller> ask : asks) {
                Caller asked = make.get();
                ask.accept(asked);
                asked.tellsAs(make.get());
            }
        }
        Caller.sentence("15 image: keeping changes nothing but which IMAGES are kept");
        for (Supplier<Caller> make : books) {
            for (int k = 0; k <= 1; k++) {
                Caller b = make.get(), other = make.get();
                b.image(k).is(1);
                b.count(4).is(other.count(4).value | 1 << k);
                other.image(k);
                List<Integer> told = b.tellsAll();
                b.restore(k).is(1);
                if (!told.equals(b.tellsAll())) Caller.fault("image(" + k + ") keeps another book");
            }
        }
    }

    // ---- the order of refusals

    private static void firstThatFits() {
        Caller.sentence("Refused calls answer the first that fits: add, OUTSIDE before FULL");
        int[][] adds = {{3, 1, 0, 0}, {-1, 1, 0, 0}, {0, 0, 0, 0}, {0, 13, 0, 0}, {1, 81, 0, 0}, {1, 1, -1, 0}, {2, 1, 0, 31}, {2, 1, 2, 1}};
        for (int[] a : adds) full().add(a[0], a[1], a[2], a[3]).is(OUTSIDE);
        full().add(0, 1, LOW, GREAT).is(FULL);
        full().add(0, 12, 31, -1).is(FULL);
        full().add(2, 80, 30, 30).is(FULL);
        List<Supplier<Caller>> books = List.of(RefusalTest::empty, RefusalTest::few, RefusalTest::full, RefusalTest::withoutLaying);
        for (Supplier<Caller> make : books) {
            Caller.sentence("UNKNOWN before OUTSIDE, NONE only where no refusal fits");
            int items = make.get().count(0).value;
            int[] unknown = {-1, items, LOW, GREAT};
            for (int i : unknown) {
                make.get().change(i, 0, 0).is(UNKNOWN);
                make.get().change(i, 1, 81).is(UNKNOWN);
                make.get().move(i, -1).is(UNKNOWN);
                make.get().move(i, i).is(UNKNOWN);
                make.get().item(i, 4).is(UNKNOWN);
                make.get().place(i, 0, 4).is(UNKNOWN);
                make.get().place(i, -1, -1).is(UNKNOWN);
                make.get().place(i, 99, 0).is(UNKNOWN);
                make.get().relief(i).is(UNKNOWN);
            }
            make.get().column(-1, 5).is(OUTSIDE);
            make.get().column(GREAT, -1).is(OUTSIDE);
            make.get().best(5).is(OUTSIDE);
            make.get().fit(151).is(OUTSIDE);
            make.get().restore(2).is(OUTSIDE);
            make.get().restore(-1).is(OUTSIDE);
            if (items == 0) continue;
            make.get().place(0, -1, 4).is(OUTSIDE);
            make.get().place(0, 99, -1).is(OUTSIDE);
            make.get().place(1, 1, 4).is(OUTSIDE);
            make.get().relief(0).is(OUTSIDE);
        }
        Caller.sentence("No LAYING: what can't be told is NONE");
        withoutLaying().noLaying();
        withoutLaying().place(0, 0, 0).is(NONE);
        withoutLaying().place(1, 0, 0).is(NONE);
        withoutLaying().column(0, 0).is(NONE);
        withoutLaying().meet(0).is(NONE);
        withoutLaying().relief(1).is(NONE);
        withoutLaying().culprit().is(NONE);
        withoutLaying().fit(1).is(94);
    }

    // ---- all that is told is as things are when it is asked

    /** One that has been asked all before things changed tells no other than one that was asked nothing. */
    private static void toldAnew(String call, Supplier<Caller> make, Consumer<Caller> alter) {
        Caller.sentence("All that is told is as things are when it is asked: " + call);
        Caller asked = make.get(), other = make.get();
        asked.tellsAll();
        alter.accept(asked);
        alter.accept(other);
        asked.tellsAs(other);
    }

    private static void asThingsAre() {
        toldAnew("add", RefusalTest::few, b -> b.add(0, 3, 0, 0).is(5));
        toldAnew("add to none", RefusalTest::empty, b -> b.add(0, 3, 0, 0).is(0));
        toldAnew("change, LINES", RefusalTest::few, b -> b.change(0, 1, 12).is(6));
        toldAnew("change, how high", RefusalTest::few, b -> b.change(1, 1, 25).is(13));
        toldAnew("change, LEAST", RefusalTest::few, b -> b.change(1, 2, 9).is(4));
        toldAnew("change, MOST", RefusalTest::few, b -> b.change(1, 3, 4).is(9));
        toldAnew("remove", RefusalTest::few, b -> b.remove(1).is(4));
        toldAnew("remove the last one", RefusalTest::few, b -> b.remove(4).is(4));
        toldAnew("move", RefusalTest::few, b -> b.move(1, 4).is(1));
        toldAnew("set GRID", RefusalTest::few, b -> b.set(0, 11).is(8));
        toldAnew("set HIGH", RefusalTest::few, b -> b.set(1, 40).is(70));
        toldAnew("set HIGH, no LAYING then", RefusalTest::few, b -> b.set(1, 12).is(70));
        toldAnew("set HIGH, no LAYING before", RefusalTest::withoutLaying, b -> b.set(1, 80).is(19));
        toldAnew("restore", RefusalTest::few, b -> b.restore(0).is(1));
        toldAnew("restore, no LAYING before", RefusalTest::withoutLaying, b -> b.restore(1).is(1));
        toldAnew("image", RefusalTest::few, b -> b.image(1).is(1));
        toldAnew("remove of 12", RefusalTest::full, b -> b.remove(0).is(11));
    }

    public static void main(String[] args) {
        nothingIsChanged();
        askingChangesNothing();
        firstThatFits();
        asThingsAre();
        Caller.end();
    }
}
