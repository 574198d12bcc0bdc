/** Promises 22 to 24: call, result, traced. */
public final class CallsTest {
    private static final int BAD = ReferenceRules.BAD, FULL = ReferenceRules.FULL, NONE = ReferenceRules.NONE;
    private static final int NULL = ReferenceRules.NULL, SIZE = ReferenceRules.SIZE;
    private static final Due due = new Due();

    public static void main(String[] args) {
        badValuesAndArgs();
        badArgsOfRows();
        onlyTheFirstArgsCount();
        receiverOfTheSecondSearch();
        receiverOfBoxAndRow();
        receiverOfAValue();
        superTakesTheParents();
        boxesAndInts();
        boxesComeInOrder();
        variedRows();
        variedRowOfThings();
        variedBehindOthers();
        variedGetsARow();
        sums();
        results();
        openResult();
        resultsForTheFace();
        makers();
        rowMakers();
        nullOnTheWay();
        fullOnTheWay();
        fullByTheResult();
        firstOnTheWayCounts();
        result();
        traced();
        due.end();
    }

    /** 2 below ANY, 3 below 2, 4 below 3, 5 below ANY. */
    private static ReferenceRules withTypes() {
        ReferenceRules x = new ReferenceRules();
        x.type(0);
        x.type(2);
        x.type(3);
        x.type(0);
        return x;
    }

    private static int staticValue(ReferenceRules x, int name, int faceResult, int... arguments) {
        return x.make(x.reference(0, 2, name), Short.face(x, faceResult, arguments), 0);
    }

    private static void fill(ReferenceRules x, int upTo) {
        while (x.count(4) < upTo) {
            x.box(0);
        }
    }

    private static void badValuesAndArgs() {
        ReferenceRules x = withTypes();
        Short.member(x, 2, 0, 11, 1, 2, 10);
        int[] wrong = {-1, 0, 30, Integer.MIN_VALUE, Integer.MAX_VALUE};
        for (int value : wrong) {
            due.is("call(" + value + ")", x.call(value), BAD);
        }
        int v = staticValue(x, 0, 11, 2, 10);
        due.is("the next value", x.call(v + 1), BAD);
        int two = x.thing(2);
        int four = x.thing(4);
        int five = x.thing(5);
        int any = x.thing(0);
        int boxed = x.box(1);
        due.is("of the type", Short.call(x, v, two, 0), 1);
        due.is("below the type", Short.call(x, v, four, 0), 1);
        due.is("NULL", Short.call(x, v, 0, 0), 1);
        int[] badArgs = {five, any, boxed, boxed + 1, -1, 61, Integer.MIN_VALUE, Integer.MAX_VALUE};
        for (int arg : badArgs) {
            due.is("arg " + arg, Short.call(x, v, arg, 0), BAD);
        }
        due.is("any int for INT", Short.call(x, v, two, Integer.MIN_VALUE), 1);
        due.is("no failures", x.count(6), 0);
        due.is("four calls", x.traced(3), 0);
        due.is("four calls", x.traced(4), NONE);
    }

    private static void badArgsOfRows() {
        ReferenceRules x = withTypes();
        Short.member(x, 2, 0, 11, 1, 22, 30);
        int of3 = x.make(x.reference(4, 3, 0), Short.face(x, 0, 10), 0);
        int ofInts = x.make(x.reference(4, 10, 0), Short.face(x, 0, 10), 0);
        int row3 = Short.gives(x, of3, 1);
        int ints = Short.gives(x, ofInts, 1);
        int two = x.thing(2);
        int v = staticValue(x, 0, 11, 22, 30);
        due.is("rows", Short.call(x, v, row3, ints), 1);
        due.is("NULLs", Short.call(x, v, 0, 0), 1);
        due.is("crossed", Short.call(x, v, ints, row3), BAD);
        due.is("a row of 3 for INTS", Short.call(x, v, row3, row3), BAD);
        due.is("INTS for a row of 2", Short.call(x, v, ints, ints), BAD);
        due.is("no row", Short.call(x, v, two, ints), BAD);
    }

    private static void onlyTheFirstArgsCount() {
        ReferenceRules x = withTypes();
        Short.member(x, 2, 0, 10, 1, 2);
        Short.member(x, 2, 1, 10, 1);
        int one = staticValue(x, 0, 10, 2);
        int none = staticValue(x, 1, 10);
        due.is("args behind are free", Short.gives(x, one, 0, -1, 700), 0);
        due.is("no args at all", Short.gives(x, none, -1, -1, 700), 100);
    }

    private static void receiverOfTheSecondSearch() {
        ReferenceRules x = withTypes();
        int of2 = Short.member(x, 2, 0, 10, 2, 10);
        int of3 = Short.member(x, 3, 0, 10, 0, 10);
        int r = x.reference(0, 2, 0);
        int f = Short.face(x, 10, 2, 1);
        due.is("meant", x.meant(r, f), of2);
        int v = x.make(r, f, 0);
        int three = x.thing(3);
        int four = x.thing(4);
        int seven = x.box(7);
        due.is("3's for 3", Short.gives(x, v, three, seven), 100 * of3 + 7);
        due.is("3's for 4", Short.gives(x, v, four, seven), 100 * of3 + 7);
        due.is("traced", x.traced(1), of3);
        due.is("NULL", Short.call(x, v, 0, seven), NULL);
        due.is("NULL is a failure", x.count(6), 1);
        due.is("NULL is not traced", x.traced(2), NONE);
    }

    private static void receiverOfBoxAndRow() {
        ReferenceRules x = withTypes();
        int ofAny = Short.member(x, 0, 0, 10, 0);
        int of2 = Short.member(x, 2, 0, 10, 0);
        int v = x.make(x.reference(0, 0, 0), Short.face(x, 10, 0), 0);
        int rows = x.make(x.reference(4, 2, 0), Short.face(x, 0, 10), 0);
        int boxed = x.box(5);
        int row = Short.gives(x, rows, 2);
        int three = x.thing(3);
        due.is("a BOX", Short.gives(x, v, boxed), 100 * ofAny);
        due.is("a ROW", Short.gives(x, v, row), 100 * ofAny);
        due.is("a 3", Short.gives(x, v, three), 100 * of2);
        int bound = x.make(x.reference(1, 0, 0), Short.face(x, 10), row);
        due.is("a ROW's own", Short.gives(x, bound), 100 * ofAny);
        bound = x.make(x.reference(1, 1, 0), Short.face(x, 10), boxed);
        due.is("a BOX's own", Short.gives(x, bound), 100 * ofAny);
        bound = x.make(x.reference(1, 0, 0), Short.face(x, 10), three);
        due.is("a 3's own", Short.gives(x, bound), 100 * of2);
    }

    private static void receiverOfAValue() {
        ReferenceRules x = withTypes();
        int of4 = Short.member(x, 4, 0, 10, 0, 10);
        int of2 = Short.member(x, 2, 0, 10, 0, 10);
        int r = x.reference(1, 2, 0);
        int f = Short.face(x, 10, 10);
        due.is("meant", x.meant(r, f), of2);
        int byThree = x.make(r, f, x.thing(3));
        int byFour = x.make(r, f, x.thing(4));
        due.is("3 has 2's", Short.gives(x, byThree, 1), 100 * of2 + 1);
        due.is("4 has its own", Short.gives(x, byFour, 1), 100 * of4 + 1);
        due.is("traced", x.traced(0), of2);
        due.is("traced", x.traced(1), of4);
    }

    private static void superTakesTheParents() {
        ReferenceRules x = withTypes();
        int of2 = Short.member(x, 2, 0, 10, 0, 10);
        Short.member(x, 3, 0, 10, 0, 10);
        Short.member(x, 4, 0, 10, 0, 10);
        int v = x.make(x.reference(2, 3, 0), Short.face(x, 10, 10), x.thing(4));
        due.is("the parent's, whatever the receiver is", Short.gives(x, v, 9), 100 * of2 + 9);
        due.is("traced", x.traced(0), of2);
    }

    private static void boxesAndInts() {
        ReferenceRules x = withTypes();
        Short.member(x, 2, 0, 11, 1);
        int m = Short.member(x, 2, 1, 10, 1, 10, 1);
        int v = staticValue(x, 1, 10, 1, 10);
        int boxed = x.box(30);
        due.is("both ways", Short.gives(x, v, boxed, 4), 100 * m + 34);
        due.is("one box came", x.count(4), 2);
        due.is("a box", x.of(2, 0), 1);
        due.is("of 4", x.of(2, 1), 4);
        int same = staticValue(x, 1, 10, 10, 1);
        due.is("no way", Short.gives(x, same, 5, boxed), 100 * m + 35);
        due.is("no box came", x.count(4), 2);
        due.is("NULL for BOX", Short.gives(x, same, 5, 0), 100 * m + 5);
        due.is("NULL for INT", Short.call(x, v, 0, 5), NULL);
        due.is("no box stays", x.count(4), 2);
    }

    private static void boxesComeInOrder() {
        ReferenceRules x = withTypes();
        Short.member(x, 2, 0, 0, 1, 0, 1, 0);
        int v = staticValue(x, 0, 0, 10, 10, 10);
        x.thing(5);
        due.is("the result comes behind the boxes", Short.gives(x, v, 11, 12, 13), 5);
        for (int i = 2; i <= 4; i++) {
            due.is("box " + i, x.of(i, 0), 1);
            due.is("int of " + i, x.of(i, 1), 9 + i);
        }
        due.is("the result", x.of(5, 0), 0);
    }

    private static void variedRows() {
        ReferenceRules x = withTypes();
        Short.member(x, 2, 1, 11, 1);
        int m = Short.member(x, 2, 0, 10, 5, 30);
        int none = staticValue(x, 0, 10);
        int three = staticValue(x, 0, 10, 10, 1, 10);
        due.is("of none", Short.gives(x, none), 100 * m);
        due.is("an empty row", x.of(1, 0), 30);
        due.is("an empty row", x.of(1, 1), 0);
        int boxed = x.box(50);
        due.is("of three", Short.gives(x, three, 1, boxed, 6), 100 * m + 57);
        due.is("a row", x.of(3, 0), 30);
        due.is("of three places", x.of(3, 1), 3);
        due.is("place 0", x.place(3, 0), 1);
        due.is("place 1", x.place(3, 1), 50);
        due.is("place 2", x.place(3, 2), 6);
        due.is("no place 3", x.place(3, 3), BAD);
        due.is("nothing else came", x.count(4), 3);
        due.is("NULL for a place", Short.call(x, three, 1, 0, 6), NULL);
        due.is("nothing stays", x.count(4), 3);
    }

    private static void variedRowOfThings() {
        ReferenceRules x = withTypes();
        int m = Short.member(x, 2, 0, 1, 5, 21);
        int v = staticValue(x, 0, 1, 10, 1, 10);
        int boxed = x.box(50);
        due.is("the result", Short.gives(x, v, 7, boxed, 8), 5);
        due.is("the row comes first", x.of(2, 0), 21);
        due.is("place 0", x.place(2, 0), 3);
        due.is("place 1", x.place(2, 1), boxed);
        due.is("place 2", x.place(2, 2), 4);
        due.is("box 3", x.of(3, 1), 7);
        due.is("box 4", x.of(4, 1), 8);
        due.is("a row of BOXES is not added", x.of(5, 1), 100 * m);
        due.is("NULL stays NULL", Short.gives(x, v, 7, 0, 8), 9);
        due.is("place 1", x.place(6, 1), 0);
    }

    private static void variedBehindOthers() {
        ReferenceRules x = withTypes();
        Short.member(x, 2, 5, 11, 0);
        int m = Short.member(x, 2, 0, 10, 4, 1, 10, 30);
        int less = x.make(x.reference(1, 2, 0), Short.face(x, 10, 10, 1), x.thing(2));
        int boxed = x.box(20);
        due.is("one less", Short.gives(x, less, 1, boxed), 100 * m + 21);
        due.is("the box ahead", x.of(3, 0), 1);
        due.is("the row behind", x.of(4, 0), 30);
        due.is("the row is empty", x.of(4, 1), 0);
        int as = x.make(0, Short.face(x, 10, 10, 10, 1), 1);
        due.is("as many", Short.gives(x, as, 1, 2, boxed), 100 * m + 23);
        due.is("the box", x.of(5, 1), 1);
        due.is("the row", x.of(6, 0), 30);
        due.is("the row's place", x.place(6, 0), 20);
        int second = x.make(x.reference(0, 2, 0), Short.face(x, 10, 2, 1, 1), 0);
        due.is("behind a receiver", Short.gives(x, second, 1, boxed, boxed), 100 * m + 40);
        due.is("the row", x.of(7, 0), 30);
        due.is("the row is empty", x.of(7, 1), 0);
    }

    private static void variedGetsARow() {
        ReferenceRules x = withTypes();
        Short.member(x, 2, 1, 30, 5, 30);
        Short.member(x, 2, 2, 10, 1, 30);
        int m = Short.member(x, 2, 0, 10, 5, 30);
        int v = staticValue(x, 0, 10, 30);
        int notVaried = staticValue(x, 2, 10, 30);
        int make = staticValue(x, 1, 30, 10, 10);
        due.is("a row of two, and the result", Short.gives(x, make, 40, 2), 2);
        due.is("its places", x.place(1, 0), 40);
        due.is("the places are added", Short.gives(x, v, 1), 100 * m + 42);
        due.is("no new row", x.count(4), 2);
        due.is("NULL", Short.gives(x, v, 0), 100 * m);
        due.is("not varied: they are not added", Short.gives(x, notVaried, 1), 100);
    }

    private static void sums() {
        ReferenceRules x = withTypes();
        Short.member(x, 2, 5, 11, 1);
        Short.member(x, 2, 4, 11, 1);
        int m = Short.member(x, 2, 0, 10, 1, 10, 0, 1);
        int v = staticValue(x, 0, 10, 10, 0, 1);
        int big = x.box(Integer.MAX_VALUE);
        int ten = x.box(10);
        due.is("INT and BOX, not ANY", Short.gives(x, v, 3, ten, ten), 100 * m + 13);
        due.is("wrapped", Short.gives(x, v, Integer.MAX_VALUE, 0, big), 100 * m - 2);
        due.is("below 0", Short.gives(x, v, -500, 0, 0), 100 * m - 500);
    }

    private static void results() {
        ReferenceRules x = withTypes();
        int[] results = {10, 1, 0, 3, 30, 25, 20};
        for (int i = 0; i < results.length; i++) {
            Short.member(x, 2, 0, results[i], 1, oneMore(i));
        }
        int[] values = new int[results.length];
        for (int i = 0; i < results.length; i++) {
            values[i] = x.make(x.reference(0, 2, 0), Short.face(x, results[i], oneMore(i)), 0);
        }
        due.is("INT", Short.gives(x, values[0]), 0);
        due.is("nothing came", x.count(4), 0);
        due.is("BOX", Short.gives(x, values[1], 5), 1);
        due.is("of V", x.of(1, 1), 105);
        due.is("ANY", Short.gives(x, values[2], 0, 0), 2);
        due.is("ANY", x.of(2, 0), 0);
        due.is("3", Short.gives(x, values[3], 0, 0, 0), 3);
        due.is("3", x.of(3, 0), 3);
        due.is("INTS", Short.gives(x, values[4], 0), 4);
        due.is("INTS", x.of(4, 0), 30);
        due.is("one place", x.of(4, 1), 1);
        due.is("which is 0", x.place(4, 0), 0);
        due.is("a row of 5", Short.gives(x, values[5], 0, 0), 5);
        due.is("a row of 5", x.of(5, 0), 25);
        due.is("two places", x.of(5, 1), 2);
        due.is("a row of ANY", Short.gives(x, values[6], 0, 0, 0), 6);
        due.is("three places", x.of(6, 1), 3);
    }

    private static int[] oneMore(int i) {
        int[][] parameters = {{}, {10}, {10, 10}, {10, 10, 10}, {5}, {5, 5}, {5, 5, 5}};
        return parameters[i];
    }

    private static void openResult() {
        ReferenceRules x = withTypes();
        Short.member(x, 2, 0, 11, 2);
        Short.member(x, 3, 0, 11, 0);
        int m = Short.member(x, 2, 1, 2, 1);
        Short.member(x, 2, 2, 3, 1);
        int open = staticValue(x, 1, 2);
        int closed = staticValue(x, 2, 2);
        x.box(1);
        due.is("closed", Short.gives(x, closed), 2);
        due.is("closed", x.of(2, 0), 3);
        due.is("open", Short.gives(x, open), 0);
        due.is("nothing came", x.count(4), 2);
        due.is("traced all the same", x.traced(1), m);
        fill(x, 60);
        due.is("open, and no room is needed", Short.gives(x, open), 0);
    }

    private static void resultsForTheFace() {
        ReferenceRules x = withTypes();
        Short.member(x, 2, 0, 10, 1, 10);
        Short.member(x, 2, 1, 1, 1, 10);
        Short.member(x, 2, 2, 3, 1, 10);
        Short.member(x, 2, 3, 11, 1, 10);
        int toBox = staticValue(x, 0, 1, 10);
        int toAny = staticValue(x, 0, 0, 10);
        int toVoid = staticValue(x, 0, 11, 10);
        due.is("INT for BOX", Short.gives(x, toBox, 8), 1);
        due.is("INT for BOX", x.of(1, 1), 8);
        due.is("INT for ANY", Short.gives(x, toAny, 9), 2);
        due.is("INT for ANY", x.of(2, 1), 9);
        due.is("INT for VOID", Short.gives(x, toVoid, 9), 0);
        due.is("no box", x.count(4), 2);
        int unbox = staticValue(x, 1, 10, 10);
        due.is("BOX for INT", Short.gives(x, unbox, 9), 109);
        due.is("the box came all the same", x.of(3, 1), 109);
        due.is("BOX for VOID", Short.gives(x, staticValue(x, 1, 11, 10), 9), 0);
        due.is("the box came all the same", x.count(4), 4);
        due.is("3 for VOID", Short.gives(x, staticValue(x, 2, 11, 10), 9), 0);
        due.is("the thing came all the same", x.of(5, 0), 3);
        due.is("VOID for VOID", Short.gives(x, staticValue(x, 3, 11, 10), 9), 0);
        due.is("nothing came", x.count(4), 5);
        due.is("3 for ANY", Short.gives(x, staticValue(x, 2, 0, 10), 9), 6);
        due.is("BOX for ANY", Short.gives(x, staticValue(x, 1, 0, 10), 9), 7);
    }

    private static void makers() {
        ReferenceRules x = withTypes();
        Short.member(x, 5, 0, 11, 0);
        int m = Short.member(x, 3, 6, 3, 0, 1);
        int varied = Short.member(x, 3, 6, 3, 4, 10, 21);
        int one = x.make(x.reference(3, 3, 0), Short.face(x, 2, 10), 0);
        int two = x.make(0, Short.face(x, 0, 10, 10), 0);
        int plain = x.make(x.reference(3, 4, 0), Short.face(x, 11), 0);
        due.is("a maker", Short.gives(x, one, 5), 2);
        due.is("the box ahead", x.of(1, 0), 1);
        due.is("the thing", x.of(2, 0), 3);
        due.is("traced", x.traced(0), m);
        due.is("a varied maker", Short.gives(x, two, 5, 6), 5);
        due.is("the row ahead", x.of(3, 0), 21);
        due.is("its box", x.place(3, 0), 4);
        due.is("the thing", x.of(5, 0), 3);
        due.is("traced", x.traced(1), varied);
        due.is("plain for VOID", Short.gives(x, plain), 0);
        due.is("the thing came", x.of(6, 0), 4);
        due.is("plain is not traced", x.traced(2), NONE);
        due.is("plain", Short.gives(x, x.make(1, Short.face(x, 0), 0)), 7);
    }

    private static void rowMakers() {
        ReferenceRules x = withTypes();
        int byInt = x.make(x.reference(4, 3, 0), Short.face(x, 22, 10), 0);
        int byBox = x.make(x.reference(4, 10, 0), Short.face(x, 0, 1), 0);
        due.is("size -1", Short.call(x, byInt, -1), SIZE);
        due.is("size MIN", Short.call(x, byInt, Integer.MIN_VALUE), SIZE);
        due.is("failures", x.count(6), 2);
        due.is("size 21", Short.call(x, byInt, 21), FULL);
        due.is("size MAX", Short.call(x, byInt, Integer.MAX_VALUE), FULL);
        due.is("FULL is no failure", x.count(6), 2);
        due.is("nothing came", x.count(4), 0);
        due.is("size 0", Short.gives(x, byInt, 0), 1);
        due.is("size 20", Short.gives(x, byInt, 20), 2);
        due.is("a row of 3", x.of(2, 0), 23);
        due.is("20 places", x.of(2, 1), 20);
        due.is("NULL", Short.call(x, byBox, 0), NULL);
        due.is("NULL is a failure", x.count(6), 3);
        due.is("by a box", Short.gives(x, byBox, x.box(4)), 4);
        due.is("INTS", x.of(4, 0), 30);
        due.is("4 places", x.of(4, 1), 4);
        int below = x.box(-3);
        int above = x.box(21);
        due.is("a box of -3", Short.call(x, byBox, below), SIZE);
        due.is("a box of 21", Short.call(x, byBox, above), FULL);
        due.is("not traced", x.traced(0), NONE);
        fill(x, 60);
        due.is("no room", Short.call(x, byInt, 2), FULL);
        due.is("SIZE ahead of no room", Short.call(x, byInt, -2), SIZE);
        due.is("failures", x.count(6), 5);
    }

    private static void nullOnTheWay() {
        ReferenceRules x = withTypes();
        Short.member(x, 2, 0, 10, 0, 0, 10);
        int v = x.make(x.reference(0, 2, 0), Short.face(x, 10, 2, 10, 1), 0);
        int two = x.thing(2);
        due.is("good", Short.gives(x, v, two, 5, x.box(6)), 6);
        int things = x.count(4);
        due.is("NULL behind a new box", Short.call(x, v, two, 5, 0), NULL);
        due.is("the box is gone", x.count(4), things);
        due.is("the result stays", x.result(), 6);
        due.is("one trace", x.traced(1), NONE);
        due.is("failures", x.count(6), 1);
        due.is("NULL at all places", Short.call(x, v, 0, 5, 0), NULL);
        due.is("failures", x.count(6), 2);
        due.is("numbers are not lost", x.box(0), things + 1);
    }

    private static void fullOnTheWay() {
        ReferenceRules x = withTypes();
        Short.member(x, 2, 0, 10, 5, 21);
        int v = staticValue(x, 0, 10, 10, 10);
        fill(x, 57);
        due.is("just room for three", Short.gives(x, v, 1, 2), 0);
        due.is("now it is full", x.count(4), 60);
        due.is("no room for the row", Short.call(x, v, 1, 2), FULL);
        x.clear();
        v = x.make(0, 0, 0);
        fill(x, 58);
        due.is("no room for the second box", Short.call(x, v, 1, 2), FULL);
        due.is("nothing came", x.count(4), 58);
        due.is("no trace", x.traced(0), NONE);
        due.is("no failure", x.count(6), 0);
        due.is("numbers are not lost", x.box(0), 59);
    }

    private static void fullByTheResult() {
        int[] results = {1, 0, 3, 30};
        for (int result : results) {
            ReferenceRules x = withTypes();
            Short.member(x, 2, 0, result, 1, 0);
            int v = staticValue(x, 0, 11, 10);
            fill(x, 58);
            due.is("room for a box and the result " + result, Short.call(x, v, 1), 1);
            x.clear();
            v = x.make(0, 0, 0);
            fill(x, 59);
            due.is("room for a box alone", Short.call(x, v, 1), FULL);
            due.is("nothing came", x.count(4), 59);
            due.is("not traced", x.traced(0), NONE);
        }
        ReferenceRules x = withTypes();
        Short.member(x, 2, 0, 10, 1, 10);
        int toBox = staticValue(x, 0, 0, 10);
        int toInt = staticValue(x, 0, 10, 10);
        int plain = x.make(x.reference(3, 2, 0), Short.face(x, 11), 0);
        fill(x, 60);
        due.is("no room for the face's box", Short.call(x, toBox, 1), FULL);
        due.is("not traced", x.traced(0), NONE);
        due.is("no box is needed", Short.gives(x, toInt, 1), 1);
        due.is("no room for a plain one", Short.call(x, plain), FULL);
        due.is("no failures", x.count(6), 0);
    }

    private static void firstOnTheWayCounts() {
        ReferenceRules x = withTypes();
        Short.member(x, 2, 0, 11, 1, 0, 10);
        Short.member(x, 2, 1, 11, 1, 10, 0);
        Short.member(x, 2, 2, 11, 0, 0);
        Short.member(x, 2, 3, 11, 1, 10, 30);
        Short.member(x, 2, 4, 11, 5, 10, 20);
        int boxFirst = staticValue(x, 0, 11, 10, 1);
        int nullFirst = staticValue(x, 1, 11, 1, 10);
        int receiver = x.make(x.reference(0, 2, 2), Short.face(x, 11, 2, 10), 0);
        int row = staticValue(x, 4, 11, 1, 10);
        fill(x, 60);
        due.is("the box is ahead of NULL", Short.call(x, boxFirst, 1, 0), FULL);
        due.is("no failure", x.count(6), 0);
        due.is("NULL is ahead of the box", Short.call(x, nullFirst, 0, 1), NULL);
        due.is("the receiver is ahead of all", Short.call(x, receiver, 0, 1), NULL);
        due.is("NULL is ahead of the row", Short.call(x, row, 0, 1), NULL);
        due.is("failures", x.count(6), 3);
        due.is("BAD is ahead of all", Short.call(x, nullFirst, 61, 1), BAD);
        due.is("BAD behind NULL, too", Short.call(x, boxFirst, 1, -1), BAD);
        due.is("failures", x.count(6), 3);
    }

    private static void result() {
        ReferenceRules x = withTypes();
        Short.member(x, 2, 0, 10, 1, 10);
        int v = staticValue(x, 0, 10, 10);
        int bad = staticValue(x, 0, 10, 1);
        due.is("before", x.result(), 0);
        due.is("call", Short.call(x, v, -44), 1);
        due.is("an int", x.result(), -44);
        due.is("again", x.result(), -44);
        due.is("a failure", Short.call(x, bad, 0), NULL);
        due.is("BAD", x.call(7), BAD);
        due.is("the latest that was 1", x.result(), -44);
        due.is("call", Short.call(x, v, 45), 1);
        due.is("the next", x.result(), 45);
    }

    private static void traced() {
        ReferenceRules x = withTypes();
        int[] values = new int[6];
        for (int i = 0; i < 6; i++) {
            Short.member(x, 2, i, 11, 1);
        }
        Short.face(x, 11);
        for (int i = 0; i < 6; i++) {
            values[i] = x.make(x.reference(0, 2, i), 0, 0);
        }
        for (int i = 0; i < 50; i++) {
            due.is("not yet", x.traced(i), NONE);
            x.call(values[i % 6]);
            due.is("traced(" + i + ")", x.traced(i), i % 6);
        }
        due.is("traced(50)", x.traced(50), NONE);
        for (int more = 1; more <= 70; more++) {
            x.call(values[(49 + more) % 6]);
            due.is("the oldest kept", x.traced(0), more % 6);
            due.is("the latest", x.traced(49), (49 + more) % 6);
            due.is("no 51st", x.traced(50), NONE);
        }
        due.is("traced(-1)", x.traced(-1), NONE);
        due.is("traced(MIN)", x.traced(Integer.MIN_VALUE), NONE);
        due.is("traced(MAX)", x.traced(Integer.MAX_VALUE), NONE);
    }
}
