/** Promises 16 to 21, 25 and 26: thing, box, of, place, make, arg, count, clear. */
public final class ThingsTest {
    private static final int BAD = ReferenceRules.BAD, FULL = ReferenceRules.FULL, STATE = ReferenceRules.STATE;
    private static final int NONE = ReferenceRules.NONE, NULL = ReferenceRules.NULL;
    private static final Due due = new Due();

    public static void main(String[] args) {
        thing();
        thingsFull();
        of();
        place();
        makeBad();
        makeReceivers();
        makeState();
        makeNull();
        makeFull();
        arg();
        count();
        clear();
        due.end();
    }

    /** 2 below ANY, 3 below 2, 4 below ANY. */
    private static ReferenceRules withTypes() {
        ReferenceRules x = new ReferenceRules();
        x.type(0);
        x.type(2);
        x.type(0);
        return x;
    }

    private static void thing() {
        ReferenceRules x = withTypes();
        Short.member(x, 2, 0, 11, 2);
        Short.member(x, 3, 0, 11, 0);
        int[] bad = {-1, 1, 5, 9, 10, 11, 20, 22, 30, Integer.MIN_VALUE, Integer.MAX_VALUE};
        for (int t : bad) {
            due.is("thing(" + t + ")", x.thing(t), BAD);
        }
        due.is("open", x.thing(2), STATE);
        due.is("count(4)", x.count(4), 0);
        due.is("thing(3)", x.thing(3), 1);
        due.is("thing(0)", x.thing(0), 2);
        due.is("box(-5)", x.box(-5), 3);
        due.is("thing(4)", x.thing(4), 4);
        due.is("count(4)", x.count(4), 4);
    }

    private static void thingsFull() {
        ReferenceRules x = withTypes();
        Short.member(x, 2, 0, 11, 2);
        for (int i = 1; i <= 60; i++) {
            due.is("thing " + i, i % 2 == 0 ? x.box(i) : x.thing(4), i);
        }
        due.is("thing(4) when full", x.thing(4), FULL);
        due.is("box when full", x.box(1), FULL);
        due.is("thing(1) when full", x.thing(1), BAD);
        due.is("thing(2) when full", x.thing(2), STATE);
        due.is("count(4) when full", x.count(4), 60);
        due.is("the last is there", x.of(60, 1), 60);
        due.is("no failures", x.count(6), 0);
    }

    private static void of() {
        ReferenceRules x = withTypes();
        x.thing(3);
        x.box(Integer.MIN_VALUE);
        x.thing(0);
        int[] bad = {-1, 0, 4, 60, 61, Integer.MIN_VALUE, Integer.MAX_VALUE};
        for (int thing : bad) {
            due.is("of(" + thing + ", 0)", x.of(thing, 0), BAD);
            due.is("of(" + thing + ", 1)", x.of(thing, 1), BAD);
        }
        due.is("type of 1", x.of(1, 0), 3);
        due.is("amount of 1", x.of(1, 1), 0);
        due.is("type of 2", x.of(2, 0), 1);
        due.is("amount of 2", x.of(2, 1), Integer.MIN_VALUE);
        due.is("type of 3", x.of(3, 0), 0);
        due.is("amount of 3", x.of(3, 1), 0);
        due.is("what -1", x.of(1, -1), BAD);
        due.is("what 2", x.of(1, 2), BAD);
    }

    private static void place() {
        ReferenceRules x = withTypes();
        x.tell(10);
        x.face(0);
        x.reference(4, 3, 0);
        x.reference(4, 10, 0);
        x.make(0, 0, 0);
        x.make(1, 0, 0);
        due.is("row of 3, 20 places", Short.gives(x, 0, 20), 1);
        due.is("row of INTS, no places", Short.gives(x, 1, 0), 2);
        x.box(7);
        x.thing(3);
        due.is("type of the row of 3", x.of(1, 0), 23);
        due.is("places of the row of 3", x.of(1, 1), 20);
        due.is("type of the row of INTS", x.of(2, 0), 30);
        due.is("places of the row of INTS", x.of(2, 1), 0);
        for (int i = -1; i <= 20; i++) {
            due.is("place(1, " + i + ")", x.place(1, i), i < 0 || i > 19 ? BAD : 0);
        }
        due.is("place(2, 0)", x.place(2, 0), BAD);
        int[] noRow = {-1, 0, 3, 4, 5, 61, Integer.MIN_VALUE, Integer.MAX_VALUE};
        for (int row : noRow) {
            due.is("place(" + row + ", 0)", x.place(row, 0), BAD);
        }
        due.is("place(1, MAX)", x.place(1, Integer.MAX_VALUE), BAD);
        due.is("place(1, MIN)", x.place(1, Integer.MIN_VALUE), BAD);
    }

    /** References 0 to 4 of the forms 0 to 4, all of which mean something for face 0; face 1 suits none. */
    private static ReferenceRules withReferences() {
        ReferenceRules x = withTypes();
        Short.member(x, 2, 0, 11, 0, 10);
        Short.member(x, 3, 1, 11, 1, 10);
        Short.member(x, 3, 6, 3, 0, 10);
        Short.face(x, 11, 10);
        Short.face(x, 30, 4);
        x.reference(0, 3, 1);
        x.reference(1, 3, 0);
        x.reference(2, 3, 0);
        x.reference(3, 3, 0);
        x.reference(4, 3, 0);
        return x;
    }

    private static void makeBad() {
        ReferenceRules x = withReferences();
        int[] wrong = {-1, Integer.MIN_VALUE, Integer.MAX_VALUE};
        for (int w : wrong) {
            due.is("make, reference " + w, x.make(w, 0, 0), BAD);
            due.is("make, face " + w, x.make(0, w, 0), BAD);
            for (int form = 0; form <= 4; form++) {
                due.is("make, form " + form + ", receiver " + w, x.make(form, 0, w), BAD);
            }
        }
        due.is("make, reference 5", x.make(5, 0, 0), BAD);
        due.is("make, face 2", x.make(0, 2, 0), BAD);
        due.is("count(5)", x.count(5), 0);
        due.is("count(6)", x.count(6), 0);
    }

    private static void makeReceivers() {
        ReferenceRules x = withReferences();
        int three = x.thing(3);
        int two = x.thing(2);
        int boxed = x.box(1);
        due.is("form 0 with a receiver", x.make(0, 0, three), BAD);
        due.is("form 3 with a receiver", x.make(3, 0, three), BAD);
        due.is("form 4 with a receiver", x.make(4, 0, three), BAD);
        for (int form = 1; form <= 2; form++) {
            due.is("form " + form + ", of the parent", x.make(form, 0, two), BAD);
            due.is("form " + form + ", a box", x.make(form, 0, boxed), BAD);
            due.is("form " + form + ", no thing", x.make(form, 0, 4), BAD);
            due.is("form " + form + ", BAD ahead of STATE", x.make(form, 1, two), BAD);
        }
        due.is("form 0", x.make(0, 0, 0), 0);
        due.is("form 1", x.make(1, 0, three), 1);
        due.is("form 2", x.make(2, 0, three), 2);
        due.is("form 3", x.make(3, 0, 0), 3);
        due.is("form 4", x.make(4, 0, 0), 4);
        due.is("count(5)", x.count(5), 5);
        due.is("count(4) still", x.count(4), 3);
        int below = x.reference(1, 2, 0);
        due.is("of a type below", x.make(below, 0, three), 5);
    }

    private static void makeState() {
        ReferenceRules x = withReferences();
        int three = x.thing(3);
        due.is("form 0", x.make(0, 1, 0), STATE);
        due.is("form 1", x.make(1, 1, three), STATE);
        due.is("form 2", x.make(2, 1, three), STATE);
        due.is("form 3", x.make(3, 1, 0), STATE);
        due.is("form 4", x.make(4, 1, 0), STATE);
        due.is("form 0 with a receiver", x.make(0, 1, three), BAD);
        due.is("STATE ahead of NULL", x.make(1, 1, 0), STATE);
        due.is("STATE ahead of the BAD that stands by NULL", x.make(2, 1, 0), STATE);
        due.is("no failure", x.count(6), 0);
        due.is("no value", x.count(5), 0);
    }

    private static void makeNull() {
        ReferenceRules x = withReferences();
        due.is("form 1", x.make(1, 0, 0), NULL);
        due.is("a failure", x.count(6), 1);
        due.is("form 2", x.make(2, 0, 0), BAD);
        due.is("no failure more", x.count(6), 1);
        due.is("no value", x.count(5), 0);
    }

    private static void makeFull() {
        ReferenceRules x = withReferences();
        for (int i = 0; i < 30; i++) {
            due.is("value " + i, x.make(0, 0, 0), i);
        }
        due.is("the 31st", x.make(0, 0, 0), FULL);
        due.is("BAD ahead of FULL", x.make(0, 0, 1), BAD);
        due.is("STATE ahead of FULL", x.make(0, 1, 0), STATE);
        due.is("NULL ahead of FULL", x.make(1, 0, 0), NULL);
        due.is("BAD of form 2 ahead of FULL", x.make(2, 0, 0), BAD);
        due.is("count(5)", x.count(5), 30);
        due.is("count(6)", x.count(6), 1);
    }

    private static void arg() {
        ReferenceRules x = withTypes();
        int[] bad = {-1, 3, Integer.MIN_VALUE, Integer.MAX_VALUE};
        for (int i : bad) {
            due.is("arg(" + i + ", 0)", x.arg(i, 0), BAD);
        }
        Short.member(x, 2, 0, 10, 1, 10, 10, 10);
        Short.face(x, 10, 10, 10, 10);
        x.reference(0, 2, 0);
        x.make(0, 0, 0);
        due.is("args are 0 at first", Short.gives(x, 0), 0);
        due.is("arg(0, 5)", x.arg(0, 5), 1);
        due.is("arg(1, MIN)", x.arg(1, Integer.MIN_VALUE), 1);
        due.is("arg(2, 70)", x.arg(2, 70), 1);
        due.is("args are taken", Short.gives(x, 0), Integer.MIN_VALUE + 75);
        due.is("args stay", Short.gives(x, 0), Integer.MIN_VALUE + 75);
        due.is("arg(1, -1)", x.arg(1, -1), 1);
        due.is("the latest counts", Short.gives(x, 0), 74);
    }

    private static void count() {
        ReferenceRules x = withReferences();
        x.thing(3);
        x.box(3);
        x.make(0, 0, 0);
        x.make(1, 0, 0);
        x.make(1, 0, 0);
        int[] counts = {5, 3, 2, 5, 2, 1, 2};
        for (int i = 0; i < counts.length; i++) {
            due.is("count(" + i + ")", x.count(i), counts[i]);
        }
        int[] bad = {-1, 7, Integer.MIN_VALUE, Integer.MAX_VALUE};
        for (int what : bad) {
            due.is("count(" + what + ")", x.count(what), BAD);
        }
    }

    private static void clear() {
        ReferenceRules x = withTypes();
        due.is("clear at first", x.clear(), 0);
        Short.member(x, 2, 0, 10, 1, 10, 10);
        Short.face(x, 10, 10, 10);
        x.reference(0, 2, 0);
        x.reference(1, 2, 0);
        x.make(0, 0, 0);
        x.thing(2);
        x.box(8);
        x.thing(4);
        x.reference(4, 10, 0);
        Short.face(x, 11, 1);
        x.make(2, 1, 0);
        due.is("a failure", Short.call(x, 1, 0), NULL);
        due.is("a result", Short.gives(x, 0, 5, 6), 11);
        due.is("a trace", x.traced(0), 0);
        x.tell(10);
        due.is("clear", x.clear(), 3);
        int[] counts = {5, 1, 2, 3, 0, 0, 1};
        for (int i = 0; i < counts.length; i++) {
            due.is("count(" + i + ") behind clear", x.count(i), counts[i]);
        }
        due.is("no thing", x.of(1, 0), BAD);
        due.is("no value", x.call(0), BAD);
        due.is("no result", x.result(), 0);
        due.is("no trace", x.traced(0), NONE);
        due.is("what was told stays", x.untell(), 1);
        due.is("numbers begin again", x.make(0, 0, 0), 0);
        due.is("args are 0", Short.gives(x, 0), 0);
        due.is("one trace", x.traced(0), 0);
        due.is("one trace", x.traced(1), NONE);
        due.is("things begin again", x.box(1), 1);
        due.is("clear again", x.clear(), 1);
        due.is("clear at last", x.clear(), 0);
        placesBeginAgain();
    }

    private static void placesBeginAgain() {
        ReferenceRules x = withTypes();
        Short.member(x, 2, 0, 0, 5, 30);
        Short.face(x, 0, 10, 10);
        Short.face(x, 0, 10);
        x.reference(0, 2, 0);
        x.reference(4, 10, 0);
        x.make(0, 0, 0);
        due.is("a row of two INTS", Short.call(x, 0, 41, 42), 1);
        due.is("its place", x.place(1, 1), 42);
        x.clear();
        x.make(1, 1, 0);
        due.is("a new row", Short.gives(x, 0, 3), 1);
        for (int i = 0; i < 3; i++) {
            due.is("its place " + i, x.place(1, i), 0);
        }
    }
}
