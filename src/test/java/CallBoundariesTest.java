/** The boundary cases that part 4 of the Terms (THINGS, VALUES, what CALLED does) names, a test for each of its sentences. */
public final class CallBoundariesTest {
    private static final int BAD = ReferenceRules.BAD, FULL = ReferenceRules.FULL, STATE = ReferenceRules.STATE;
    private static final int NONE = ReferenceRules.NONE, NULL = ReferenceRules.NULL, SIZE = ReferenceRules.SIZE;
    private static final int MIN = Integer.MIN_VALUE, MAX = Integer.MAX_VALUE;
    private static final Due due = new Due();

    public static void main(String[] args) {
        sixtyThings();
        nullOfEach();
        thirtyValues();
        valuesOfWhatIsMeant();
        receiverIsTheFirstArg();
        receiverIsTheValues();
        memberThatTheReceiverHas();
        memberOfOthersAsFound();
        intBecomesABox();
        boxBecomesItsInt();
        phaseThreeMakesARow();
        rowsPlacesLikewise();
        sizeOfARow();
        traced();
        hundredTimesItsNumber();
        addedIntsAndBoxes();
        addedPlaces();
        wrapped();
        results();
        resultOfOpenIsNull();
        resultRowHasPlaces();
        makersAndPlain();
        resultForTheFace();
        leastNumbers();
        firstOnTheWay();
        changesNothing();
        due.end();
    }

    /** 2 below ANY, 3 below 2, 4 below 3, 5 below ANY. */
    private static ReferenceRules withTypes() {
        return Short.types(0, 2, 3, 0);
    }

    private static void sixtyThings() {
        due.sentence("THINGS 1 to 60 are of a TYPE, BOXES with an int, or ROWS with so many places;");
        ReferenceRules x = withTypes();
        int rows = x.make(x.reference(4, 2, 0), Short.face(x, 0, 10), 0);
        for (int i = 1; i <= 60; i++) {
            due.is("there is no thing " + i + " yet", x.of(i, 0), BAD);
            int made = i % 3 == 0 ? x.box(i) : i % 3 == 1 ? x.thing(4) : Short.gives(x, rows, i % 21);
            due.is("thing " + i, made, i);
            due.is("its type", x.of(i, 0), i % 3 == 0 ? 1 : i % 3 == 1 ? 4 : 22);
            due.is("its amount", x.of(i, 1), i % 3 == 0 ? i : i % 3 == 1 ? 0 : i % 21);
        }
        due.is("a 61st thing", x.thing(4), FULL);
        due.is("a 61st box", x.box(1), FULL);
        due.is("a 61st row", Short.call(x, rows, 0), FULL);
        due.is("there is none", x.of(61, 0), BAD);
    }

    private static void nullOfEach() {
        due.sentence("0 is NULL, of each of these.");
        int[] types = {0, 1, 2, 5, 20, 21, 25, 30};
        for (int t : types) {
            ReferenceRules x = withTypes();
            Short.member(x, 2, 0, 10, 1, t);
            int v = Short.staticValue(x, 2, 0, 10, t);
            due.is("NULL for " + t, Short.gives(x, v, 0), 0);
            due.is("no failure", x.count(6), 0);
        }
        due.is("NULL is no THING by of()", withTypes().of(0, 0), BAD);
    }

    private static void thirtyValues() {
        due.sentence("VALUES, 30 at most,");
        ReferenceRules x = withTypes();
        int r = x.reference(3, 2, 0);
        int f = Short.face(x, 11);
        for (int i = 0; i < 30; i++) {
            due.is("there is no value " + i + " yet", x.call(i), BAD);
            due.is("value " + i, x.make(r, f, 0), i);
            due.is("now there is", x.call(i), 1);
        }
        due.is("a 31st", x.make(r, f, 0), FULL);
        due.is("there is none", x.call(30), BAD);
        due.is("there are thirty", x.count(5), 30);
    }

    private static void valuesOfWhatIsMeant() {
        due.sentence("are of a REFERENCE and a FACE for which it MEANS something, FORMS 1, 2 with a THING.");
        ReferenceRules x = withTypes();
        Short.member(x, 2, 0, 10, 0);
        int good = Short.face(x, 10);
        int bad = Short.face(x, 2);
        int[] r = {x.reference(1, 2, 0), x.reference(2, 3, 0), x.reference(3, 5, 0)};
        int three = x.thing(3);
        due.is("of a value", x.make(r[0], good, three), 0);
        due.is("of a value, FAULT 5", x.make(r[0], bad, three), STATE);
        due.is("of a parent", x.make(r[1], good, three), 1);
        due.is("of a parent, FAULT 5", x.make(r[1], bad, three), STATE);
        due.is("a maker with a THING", x.make(r[2], Short.face(x, 0), three), BAD);
        due.is("a maker, FAULT 5", x.make(r[2], bad, 0), STATE);
        due.is("a maker", x.make(r[2], 2, 0), 2);
    }

    private static void receiverIsTheFirstArg() {
        due.sentence("By the second SEARCH the receiver is the first ARG (NULL: failure NULL);");
        ReferenceRules x = withTypes();
        Short.member(x, 5, 0, 11, 0);
        int m = Short.member(x, 2, 0, 10, 0);
        int n = Short.member(x, 2, 0, 10, 0, 10, 10);
        int alone = Short.staticValue(x, 2, 0, 10, 2);
        int all = x.make(0, Short.face(x, 10, 2, 10, 10), 0);
        due.is("NULL at first", x.call(alone), NULL);
        due.is("NULL with others", Short.call(x, all, 0, 4, 5), NULL);
        due.is("two failures", x.count(6), 2);
        due.is("nothing is TRACED", x.traced(0), NONE);
        int two = x.thing(2);
        due.is("the first ARG alone", Short.gives(x, alone, two), 100 * m);
        due.is("the others are its ARGS", Short.gives(x, all, two, 4, 5), 100 * n + 9);
        due.is("no failure more", x.count(6), 2);
    }

    private static void receiverIsTheValues() {
        due.sentence("of FORMS 1, 2 the VALUE's.");
        ReferenceRules x = withTypes();
        Short.member(x, 2, 0, 10, 0, 2, 10);
        Short.member(x, 3, 0, 10, 0, 2, 10);
        int f = Short.face(x, 10, 2, 10);
        int byTwo = x.make(x.reference(1, 2, 0), f, x.thing(2));
        int byThree = x.make(0, f, x.thing(3));
        int bySuper = x.make(x.reference(2, 3, 0), f, 2);
        due.is("NULL as the first ARG is no failure", Short.gives(x, byTwo, 0, 7), 7);
        due.is("nor is another THING the receiver", Short.gives(x, byTwo, 2, 7), 7);
        due.is("the VALUE's is", Short.gives(x, byThree, 1, 7), 107);
        due.is("of the parent", Short.gives(x, bySuper, 0, 7), 7);
        due.is("no failure", x.count(6), 0);
    }

    private static void memberThatTheReceiverHas() {
        due.sentence("Of the second SEARCH, FORM 1: the MEMBER of that NAME and PARAMETERS is taken that the receiver's TYPE HAS.");
        ReferenceRules x = withTypes();
        int[] owners = {0, 2, 4};
        for (int t : owners) {
            Short.member(x, t, 0, 10, 0, 10);
        }
        int near = Short.member(x, 4, 0, 10, 0, 1);
        int second = Short.staticValue(x, 0, 0, 10, 0, 10);
        int[] types = {0, 2, 3, 4, 5};
        int[] taken = {0, 100, 100, 200, 0};
        for (int i = 0; i < types.length; i++) {
            int thing = x.thing(types[i]);
            due.is("a " + types[i], Short.gives(x, second, thing, 1), taken[i] + 1);
            int bound = x.make(x.reference(1, 0, 0), Short.face(x, 10, 10), thing);
            due.is("a " + types[i] + " of a VALUE", Short.gives(x, bound, 1), taken[i] + 1);
        }
        int boxed = x.make(1, Short.face(x, 10, 1), 4);
        due.is("of those PARAMETERS, not of closer ones", Short.gives(x, boxed, x.box(6)), 206);
        due.is("the closer one is another member", near, 3);
        ReferenceRules y = withTypes();
        int low = Short.member(y, 4, 0, 10, 0);
        int high = Short.member(y, 2, 0, 10, 0);
        int v = Short.staticValue(y, 2, 0, 10, 2);
        due.is("one that came ahead of the one found", Short.gives(y, v, y.thing(4)), 100 * low);
        due.is("the one found", Short.gives(y, v, y.thing(3)), 100 * high);
    }

    private static void memberOfOthersAsFound() {
        due.sentence("Of the second SEARCH, FORM 1:");
        ReferenceRules x = withTypes();
        int of2 = Short.member(x, 2, 0, 10, 0, 2);
        Short.member(x, 4, 0, 10, 0, 2);
        int bySuper = x.make(x.reference(2, 3, 0), Short.face(x, 10, 2), x.thing(4));
        due.is("FORM 2 takes what was found", Short.gives(x, bySuper, 1), 100 * of2);
        due.is("which is TRACED", x.traced(0), of2);
        ReferenceRules y = withTypes();
        int s = Short.member(y, 2, 0, 10, 1, 2);
        int v = Short.staticValue(y, 2, 0, 10, 2);
        due.is("the first SEARCH takes what was found, for NULL, too", Short.gives(y, v, 0), 100 * s);
    }

    private static void intBecomesABox() {
        due.sentence("Then the others in order: an INT for what is not INT becomes a new BOX;");
        int[] ints = {MIN, -1, 0, 1, MAX};
        for (int v : ints) {
            ReferenceRules x = withTypes();
            Short.member(x, 2, 0, 11, 1, 0, 1);
            int value = Short.staticValue(x, 2, 0, 11, 10, 10);
            due.is("call", Short.call(x, value, v, 7), 1);
            due.is("a BOX for ANY", x.of(1, 0), 1);
            due.is("of the int", x.of(1, 1), v);
            due.is("a BOX for BOX", x.of(2, 1), 7);
            due.is("no more", x.count(4), 2);
        }
        ReferenceRules y = withTypes();
        Short.member(y, 2, 0, 11, 1, 10);
        due.is("an INT for INT", Short.call(y, Short.staticValue(y, 2, 0, 11, 10), 5), 1);
        due.is("becomes none", y.count(4), 0);
    }

    private static void boxBecomesItsInt() {
        due.sentence("a BOX for INT its int (NULL: failure NULL);");
        int[] ints = {MIN, -1, 0, 1, MAX};
        for (int v : ints) {
            ReferenceRules x = withTypes();
            Short.member(x, 2, 0, 10, 1, 10);
            int value = Short.staticValue(x, 2, 0, 10, 1);
            due.is("NULL", Short.call(x, value, 0), NULL);
            due.is("a failure", x.count(6), 1);
            due.is("its int", Short.gives(x, value, x.box(v)), v);
            due.is("no THING came", x.count(4), 1);
        }
        ReferenceRules y = withTypes();
        Short.member(y, 2, 0, 10, 1, 1);
        due.is("NULL for BOX is no failure", Short.gives(y, Short.staticValue(y, 2, 0, 10, 1), 0), 0);
        due.is("no failure", y.count(6), 0);
    }

    private static void phaseThreeMakesARow() {
        due.sentence("found in PHASE 3, a new ROW comes for the last PARAMETER,");
        int[][] lists = {{}, {10}, {10, 10}, {10, 10, 10}};
        for (int[] list : lists) {
            ReferenceRules x = withTypes();
            Short.member(x, 2, 0, 11, 5, 30);
            int v = Short.staticValue(x, 2, 0, 11, list);
            due.is("of " + list.length, Short.call(x, v, 5, 6, 7), 1);
            due.is("a ROW of INTS", x.of(1, 0), 30);
            due.is("with so many places", x.of(1, 1), list.length);
            for (int i = 0; i < list.length; i++) {
                due.is("place " + i, x.place(1, i), 5 + i);
            }
            due.is("and no more", x.place(1, list.length), BAD);
            due.is("one THING", x.count(4), 1);
        }
        ReferenceRules y = withTypes();
        Short.member(y, 2, 0, 11, 5, 30);
        due.is("found in PHASE 1, with NULL", Short.call(y, Short.staticValue(y, 2, 0, 11, 30), 0), 1);
        due.is("no ROW comes", y.count(4), 0);
    }

    private static void rowsPlacesLikewise() {
        due.sentence("and then its places likewise, in order, from all that is left.");
        ReferenceRules x = withTypes();
        Short.member(x, 2, 0, 11, 5, 10, 20);
        Short.member(x, 2, 1, 11, 5, 0, 10, 30);
        int v = Short.staticValue(x, 2, 0, 11, 1, 10, 10);
        int nine = x.box(9);
        due.is("one ahead, two left", Short.call(x, v, nine, 3, 4), 1);
        due.is("the ROW comes first", x.of(2, 0), 20);
        due.is("place 0 is a BOX", x.place(2, 0), 3);
        due.is("of 3", x.of(3, 1), 3);
        due.is("place 1 is a BOX", x.place(2, 1), 4);
        due.is("of 4", x.of(4, 1), 4);
        int none = Short.staticValue(x, 2, 1, 11, 10, 1);
        due.is("two ahead, none left", Short.call(x, none, 3, nine), 1);
        due.is("the BOX ahead", x.of(5, 1), 3);
        due.is("an empty ROW", x.of(6, 0), 30);
        due.is("an empty ROW", x.of(6, 1), 0);
        int left = Short.staticValue(x, 2, 1, 11, 2, 10, 1);
        due.is("NULL for an INT's place", Short.call(x, left, 0, 1, 0), NULL);
        due.is("a BOX for an INT's place", Short.call(x, left, 0, 1, nine), 1);
        due.is("its int", x.place(7, 0), 9);
        due.is("failures", x.count(6), 1);
    }

    private static void sizeOfARow() {
        due.sentence("FORM 4: the ARG, as an INT likewise, is the size: below 0 failure SIZE; above 20 FULL.");
        int[] types = {0, 1, 2, 10};
        for (int t : types) {
            ReferenceRules x = withTypes();
            int byInt = x.make(x.reference(4, t, 0), Short.face(x, 0, 10), 0);
            int byBox = x.make(0, Short.face(x, 0, 1), 0);
            int[] sizes = {MIN, -1, 0, 1, 19, 20, 21, MAX};
            int things = 0;
            int failures = 0;
            for (int size : sizes) {
                int answer = size < 0 ? SIZE : size > 20 ? FULL : 1;
                due.is("size " + size, Short.call(x, byInt, size), answer);
                things += answer == 1 ? 1 : 0;
                due.is("the box", x.box(size), ++things);
                due.is("size " + size + " in a BOX", Short.call(x, byBox, things), answer);
                things += answer == 1 ? 1 : 0;
                failures += answer == SIZE ? 2 : 0;
                due.is("things", x.count(4), things);
                due.is("failures", x.count(6), failures);
                due.is("places", x.of(things, 1), size);
            }
            due.is("NULL for a BOX", Short.call(x, byBox, 0), NULL);
            due.is("one failure more", x.count(6), failures + 1);
        }
    }

    private static void traced() {
        due.sentence("What a MEMBER does: its number is TRACED;");
        ReferenceRules x = withTypes();
        Short.member(x, 2, 0, 11, 1);
        Short.member(x, 3, 6, 3, 0);
        int v = Short.staticValue(x, 2, 0, 11);
        int maker = x.make(x.reference(3, 3, 0), 0, 0);
        due.is("none yet", x.traced(0), NONE);
        due.is("call", x.call(maker), 1);
        due.is("call", x.call(v), 1);
        due.is("a MAKER is TRACED", x.traced(0), 1);
        due.is("one of a NAME", x.traced(1), 0);
        due.is("no more", x.traced(2), NONE);
    }

    private static void hundredTimesItsNumber() {
        due.sentence("V is 100 times its number,");
        ReferenceRules x = Short.types(0, 0);
        for (int i = 0; i < 39; i++) {
            Short.member(x, 3, i / 7, 11, 1, i % 7 == 1 ? 10 : i % 7 < 4 ? i % 7 : 16 + i % 7);
        }
        due.is("the last", Short.member(x, 2, 0, 10, 1), 39);
        due.is("of number 39", Short.gives(x, Short.staticValue(x, 2, 0, 10)), 3900);
        ReferenceRules y = withTypes();
        Short.member(y, 2, 0, 10, 1);
        due.is("of number 0", Short.gives(y, Short.staticValue(y, 2, 0, 10)), 0);
    }

    private static void addedIntsAndBoxes() {
        due.sentence("and what it got for PARAMETERS INT, and BOX (but NULL),");
        ReferenceRules x = withTypes();
        Short.member(x, 2, 0, 10, 1, 10, 1, 0);
        int v = Short.staticValue(x, 2, 0, 10, 10, 1, 0);
        int seven = x.box(7);
        due.is("INT and BOX; a BOX for ANY is not added", Short.gives(x, v, 30, seven, seven), 37);
        due.is("NULL", Short.gives(x, v, 30, 0, seven), 30);
        due.is("an INT of -30", Short.gives(x, v, -30, seven, 0), -23);
        int inBoxes = Short.staticValue(x, 2, 0, 10, 1, 10, 10);
        due.is("what it got, not what came", Short.gives(x, inBoxes, seven, 50, 900), 57);
        ReferenceRules y = withTypes();
        Short.member(y, 2, 0, 10, 1, 10, 10, 10);
        due.is("three", Short.gives(y, Short.staticValue(y, 2, 0, 10, 10, 10, 10), 1, 20, 300), 321);
    }

    private static void addedPlaces() {
        due.sentence("and the places of the ROW of INTS (but NULL) that a VARIED one got as its last,");
        ReferenceRules x = withTypes();
        Short.member(x, 2, 0, 10, 5, 30);
        Short.member(x, 2, 1, 10, 1, 30);
        Short.member(x, 2, 2, 10, 5, 30, 30);
        Short.member(x, 2, 3, 10, 5, 21);
        int varied = Short.staticValue(x, 2, 0, 10, 10, 10, 10);
        due.is("three places", Short.gives(x, varied, 1, 20, 300), 321);
        int none = Short.staticValue(x, 2, 0, 10);
        due.is("no places", Short.gives(x, none), 0);
        int row = Short.staticValue(x, 2, 0, 10, 30);
        due.is("a ROW as it is", Short.gives(x, row, 1), 321);
        due.is("NULL", Short.gives(x, row, 0), 0);
        due.is("one that is not VARIED", Short.gives(x, Short.staticValue(x, 2, 1, 10, 30), 1), 100);
        due.is("a ROW that is not its last", Short.gives(x, Short.staticValue(x, 2, 2, 10, 30, 10), 1, 5), 205);
        due.is("a ROW of BOXES", Short.gives(x, Short.staticValue(x, 2, 3, 10, 10, 10), 1, 5), 300);
    }

    private static void wrapped() {
        due.sentence("all added (wrapped).");
        ReferenceRules x = withTypes();
        Short.member(x, 5, 0, 11, 0);
        Short.member(x, 2, 0, 10, 1, 10, 1);
        Short.member(x, 2, 1, 10, 5, 30);
        Short.member(x, 2, 2, 1, 1, 10);
        int v = Short.staticValue(x, 2, 0, 10, 10, 1);
        int one = x.box(1);
        int least = x.box(MIN);
        due.is("up to the top", Short.gives(x, v, MAX - 101, one), MAX);
        due.is("one above it", Short.gives(x, v, MAX - 100, one), MIN);
        due.is("MAX and 100", Short.gives(x, v, MAX, 0), MIN + 99);
        due.is("MIN and MIN", Short.gives(x, v, MIN, least), 100);
        due.is("-101 and MIN", Short.gives(x, v, -101, least), MAX);
        int places = Short.staticValue(x, 2, 1, 10, 10, 10, 10);
        due.is("places", Short.gives(x, places, MAX, MAX, 2), 200);
        int boxed = Short.gives(x, Short.staticValue(x, 2, 2, 1, 10), MAX);
        due.is("in a BOX", x.of(boxed, 1), MIN + 299);
    }

    private static void results() {
        due.sentence("RESULT INT: V; BOX: a new one of V; VOID: nothing; another TYPE: a new THING of it,");
        int[] results = {10, 1, 11, 0, 2, 5};
        for (int result : results) {
            ReferenceRules x = withTypes();
            Short.member(x, 2, 0, result, 1, 10);
            int v = Short.staticValue(x, 2, 0, result, 10);
            boolean isThing = result < 10;
            due.is("RESULT " + result, Short.gives(x, v, 77), isThing ? 1 : result == 10 ? 77 : 0);
            due.is("THINGS", x.count(4), isThing ? 1 : 0);
            due.is("its type", x.of(1, 0), isThing ? result : BAD);
            due.is("its amount", x.of(1, 1), result == 1 ? 77 : isThing ? 0 : BAD);
            due.is("TRACED", x.traced(0), 0);
        }
    }

    private static void resultOfOpenIsNull() {
        due.sentence("NULL, if it is OPEN;");
        ReferenceRules x = withTypes();
        Short.member(x, 2, 0, 11, 2);
        Short.member(x, 2, 1, 2, 1);
        Short.member(x, 2, 2, 22, 1);
        int v = Short.staticValue(x, 2, 1, 2);
        due.is("NULL", Short.gives(x, v), 0);
        due.is("no failure", x.count(6), 0);
        due.is("no THING", x.count(4), 0);
        due.is("TRACED", x.traced(0), 1);
        due.is("a ROW of it is fine", Short.gives(x, Short.staticValue(x, 2, 2, 0)), 1);
        Short.fillThings(x, 60);
        due.is("it needs no room", Short.gives(x, v), 0);
    }

    private static void resultRowHasPlaces() {
        due.sentence("a ROW: a new one with as many places as it has PARAMETERS.");
        int[][] lists = {{}, {10}, {10, 10}, {10, 10, 10}};
        int[] rows = {20, 21, 22, 30};
        for (int row : rows) {
            for (int[] list : lists) {
                ReferenceRules x = withTypes();
                Short.member(x, 2, 0, row, 1, list);
                due.is("a ROW", Short.gives(x, Short.staticValue(x, 2, 0, 0, list), 5, 6, 7), 1);
                due.is("of type " + row, x.of(1, 0), row);
                due.is("places", x.of(1, 1), list.length);
                for (int i = 0; i < list.length; i++) {
                    due.is("place " + i + " is 0", x.place(1, i), 0);
                }
                due.is("no more", x.place(1, list.length), BAD);
            }
        }
        ReferenceRules y = withTypes();
        Short.member(y, 2, 0, 30, 5, 10, 30);
        due.is("PARAMETERS, not ARGS", Short.gives(y, Short.staticValue(y, 2, 0, 30, 10, 10, 10), 1, 2, 3), 2);
        due.is("two places", y.of(2, 1), 2);
    }

    private static void makersAndPlain() {
        due.sentence("MAKERS, PLAIN: a new THING of the TYPE (PLAIN is not TRACED).");
        ReferenceRules x = withTypes();
        int m = Short.member(x, 2, 6, 2, 0, 1);
        int maker = x.make(x.reference(3, 2, 0), Short.face(x, 0, 10), 0);
        int plain = x.make(x.reference(3, 4, 0), Short.face(x, 2), 0);
        int any = x.make(x.reference(3, 0, 0), Short.face(x, 0), 0);
        due.is("PLAIN", Short.gives(x, plain), 1);
        due.is("a 4", x.of(1, 0), 4);
        due.is("PLAIN is not TRACED", x.traced(0), NONE);
        due.is("of ANY", Short.gives(x, any), 2);
        due.is("an ANY", x.of(2, 0), 0);
        due.is("a MAKER, behind its BOX", Short.gives(x, maker, 5), 4);
        due.is("a 2", x.of(4, 0), 2);
        due.is("TRACED", x.traced(0), m);
        due.is("PLAIN behind a MAKER", Short.gives(x, plain), 5);
        due.is("is not TRACED, either", x.traced(1), NONE);
        for (int thing : new int[] {1, 2, 4, 5}) {
            due.is("a THING is no BOX and no ROW", x.of(thing, 1), 0);
        }
        Short.fillThings(x, 59);
        due.is("no room behind its BOX", Short.call(x, maker, 5), FULL);
        due.is("room for PLAIN", Short.gives(x, plain), 60);
        due.is("no room for PLAIN", Short.call(x, plain), FULL);
    }

    private static void resultForTheFace() {
        due.sentence("Then, as the FACE's RESULT tells: INT for another one: a new BOX; BOX for INT: its int; VOID: 0.");
        int[] results = {10, 10, 10, 10, 1, 1, 1, 1, 3, 11, 30};
        int[] wanted = {10, 1, 0, 11, 10, 1, 0, 11, 11, 11, 11};
        int[] gives = {-5, 1, 1, 0, -5, 1, 1, 0, 0, 0, 0};
        int[] things = {0, 1, 1, 0, 1, 1, 1, 1, 1, 0, 1};
        for (int i = 0; i < results.length; i++) {
            ReferenceRules x = withTypes();
            Short.member(x, 2, 0, results[i], 1, 10);
            int v = Short.staticValue(x, 2, 0, wanted[i], 10);
            due.is(results[i] + " for " + wanted[i], Short.gives(x, v, -5), gives[i]);
            due.is("THINGS", x.count(4), things[i]);
            due.is("a BOX of V", gives[i] == 1 ? x.of(1, 1) : -5, -5);
        }
    }

    private static void leastNumbers() {
        due.sentence("THINGS come in this order, with the least numbers that are free.");
        ReferenceRules x = withTypes();
        Short.member(x, 2, 0, 1, 5, 0, 21);
        int v = Short.staticValue(x, 2, 0, 0, 10, 10, 10);
        due.is("BOX, ROW, two BOXES, the RESULT", Short.gives(x, v, 1, 2, 3), 5);
        int[] types = {1, 21, 1, 1, 1};
        for (int i = 0; i < types.length; i++) {
            due.is("THING " + (i + 1), x.of(i + 1, 0), types[i]);
        }
        due.is("place 0", x.place(2, 0), 3);
        due.is("place 1", x.place(2, 1), 4);
        due.is("the next", x.box(0), 6);
        x.clear();
        due.is("from 1 on again", x.thing(2), 1);
        v = x.make(0, 0, 0);
        due.is("behind it", Short.gives(x, v, 1, 2, 3), 6);
        Short.fillThings(x, 56);
        due.is("one is missing", Short.call(x, v, 1, 2, 3), FULL);
        due.is("the numbers are free again", x.box(0), 57);
    }

    private static void firstOnTheWay() {
        due.sentence("What fails, or is FULL (a THING for which there is no room), first on this way, is told;");
        ReferenceRules x = withTypes();
        Short.member(x, 2, 0, 1, 1, 0, 10);
        Short.member(x, 2, 1, 1, 1, 10, 0);
        Short.member(x, 2, 2, 11, 0, 0);
        Short.member(x, 2, 3, 11, 5, 30);
        int boxNull = Short.staticValue(x, 2, 0, 1, 10, 1);
        int nullBox = Short.staticValue(x, 2, 1, 1, 1, 10);
        int receiver = Short.staticValue(x, 2, 2, 11, 2, 10);
        int places = Short.staticValue(x, 2, 3, 11, 1, 1);
        int rows = x.make(x.reference(4, 2, 0), Short.face(x, 0, 1), 0);
        due.is("with room: NULL", Short.call(x, boxNull, 1, 0), NULL);
        int below = x.box(-1);
        int above = x.box(21);
        Short.fillThings(x, 60);
        due.is("no room ahead of NULL", Short.call(x, boxNull, 1, 0), FULL);
        due.is("NULL ahead of no room", Short.call(x, nullBox, 0, 1), NULL);
        due.is("the receiver ahead of no room", Short.call(x, receiver, 0, 1), NULL);
        due.is("no room for the ROW ahead of NULL in it", Short.call(x, places, 0, 0), FULL);
        due.is("SIZE ahead of no room", Short.call(x, rows, below), SIZE);
        due.is("too large", Short.call(x, rows, above), FULL);
        due.is("NULL ahead of no room", Short.call(x, rows, 0), NULL);
        due.is("failures", x.count(6), 5);
    }

    private static void changesNothing() {
        due.sentence("it changes nothing (but the count of failures).");
        ReferenceRules x = withTypes();
        Short.member(x, 2, 0, 1, 5, 0, 30);
        int good = Short.staticValue(x, 2, 0, 1, 10, 10);
        int bad = Short.staticValue(x, 2, 0, 1, 10, 10, 1);
        due.is("a good one", Short.gives(x, good, 1, 50), 3);
        due.is("NULL, behind a BOX, a ROW and a place", Short.call(x, bad, 1, 2, 0), NULL);
        due.is("failures", x.count(6), 1);
        isAsBehindTheGoodOne(x, 3);
        Short.fillThings(x, 58);
        due.is("FULL, behind a BOX and a ROW", Short.call(x, good, 1, 2), FULL);
        due.is("failures", x.count(6), 1);
        isAsBehindTheGoodOne(x, 58);
        due.is("ARGS stay", Short.call(x, bad, 1, 2, 61), BAD);
        due.is("the next THING", x.box(5), 59);
    }

    private static void isAsBehindTheGoodOne(ReferenceRules x, int things) {
        due.is("THINGS", x.count(4), things);
        due.is("VALUES", x.count(5), 2);
        due.is("no THING more", x.of(things + 1, 0), BAD);
        due.is("result", x.result(), 3);
        due.is("one TRACED", x.traced(0), 0);
        due.is("one TRACED", x.traced(1), NONE);
        due.is("the BOX", x.of(1, 1), 1);
        due.is("the ROW", x.place(2, 0), 50);
        due.is("the RESULT", x.of(3, 1), 50);
    }
}
