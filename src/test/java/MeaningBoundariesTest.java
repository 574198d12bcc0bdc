/** The boundary cases that part 3 of the Terms (FACES, REFERENCES) names, a test for each of its sentences. */
public final class MeaningBoundariesTest {
    private static final int BAD = ReferenceRules.BAD, FULL = ReferenceRules.FULL, STATE = ReferenceRules.STATE;
    private static final int NONE = ReferenceRules.NONE, TWO = ReferenceRules.TWO, PLAIN = ReferenceRules.PLAIN;
    private static final int FAULT_1 = -11, FAULT_2 = -12, FAULT_3 = -13, FAULT_4 = -14, FAULT_5 = -15;
    private static final Due due = new Due();

    public static void main(String[] args) {
        tenFaces();
        threeArguments();
        resultsOfFaces();
        thirtyReferences();
        firstSearchForAll();
        secondSearchIfFirstIsThere();
        secondSearchIfFirstIsUnder();
        firstIfStatic();
        secondIfNotStatic();
        faultOneIfBothAreEmpty();
        faultThreeOfTypeName();
        elseFaultTwo();
        valueNameFaults();
        superNotAny();
        superInTheParent();
        superAbstract();
        newOfOpen();
        newAmongMakers();
        newWithoutMakers();
        rowByOneArgument();
        faultFiveBehindAll();
        faultFiveNotForVoid();
        faultFiveByWhatComes();
        exactByOneAlone();
        exactOfSuper();
        exactOfMakers();
        exactOfRows();
        due.end();
    }

    /** 2 below ANY, 3 below 2, 4 below 3, 5 below ANY. */
    private static ReferenceRules withTypes() {
        return Short.types(0, 2, 3, 0);
    }

    private static void tenFaces() {
        due.sentence("FACES, 10 at most,");
        ReferenceRules x = withTypes();
        int r = x.reference(4, 2, 0);
        for (int i = 0; i < 10; i++) {
            due.is("there is no face " + i + " yet", x.meant(r, i), BAD);
            due.is("face " + i, Short.face(x, 11, 10), i);
            due.is("now there is", x.meant(r, i), PLAIN);
        }
        due.is("an 11th", x.face(11), FULL);
        due.is("there is none", x.meant(r, 10), BAD);
        due.is("there are ten", x.count(2), 10);
    }

    private static void threeArguments() {
        due.sentence("have up to 3 ARGUMENTS (0 to 10, 20 to 30)");
        ReferenceRules x = Short.lineOfTypes();
        int[] edges = {0, 9, 10, 20, 29, 30};
        for (int i = 0; i < edges.length; i++) {
            due.is("argument " + edges[i], x.tell(edges[i]), 1);
            due.is("a face", x.face(11), i);
        }
        int[] bad = {-1, 11, 12, 19, 31};
        for (int t : bad) {
            due.is("argument " + t, x.tell(t), BAD);
        }
        x.tell(2);
        x.tell(3);
        x.tell(4);
        due.is("a fourth argument", x.tell(5), FULL);
        due.is("a face of three", x.face(11), 6);
        Short.member(x, 2, 0, 11, 1, 2, 3, 4);
        due.is("it has all three", x.meant(x.reference(0, 2, 0), 6), 0);
        due.is("a face of none", x.face(11), 7);
        due.is("it has none", x.meant(x.reference(3, 2, 0), 7), PLAIN);
    }

    private static void resultsOfFaces() {
        due.sentence("and a RESULT (these, or VOID).");
        ReferenceRules x = Short.lineOfTypes();
        int[] good = {0, 1, 9, 10, 11, 20, 29, 30};
        for (int i = 0; i < good.length; i++) {
            due.is("result " + good[i], x.face(good[i]), i);
        }
        int[] bad = {Integer.MIN_VALUE, -1, 12, 19, 31, Integer.MAX_VALUE};
        for (int result : bad) {
            due.is("result " + result, x.face(result), BAD);
        }
    }

    private static void thirtyReferences() {
        due.sentence("REFERENCES, 30 at most,");
        ReferenceRules x = withTypes();
        for (int i = 0; i < 30; i++) {
            due.is("there is no reference " + i + " yet", x.exact(i), BAD);
            due.is("reference " + i, x.reference(4, 2, 0), i);
            due.is("now there is", x.exact(i), 1);
        }
        due.is("a 31st", x.reference(4, 2, 0), FULL);
        due.is("there is none", x.exact(30), BAD);
        due.is("there are thirty", x.count(3), 30);
    }

    private static void firstSearchForAll() {
        due.sentence("FORM 0, TYPE::NAME: a first SEARCH in the TYPE for all ARGUMENTS;");
        ReferenceRules x = withTypes();
        int[][] lists = {{}, {2}, {2, 2}, {2, 2, 2}};
        int r = x.reference(0, 2, 0);
        for (int i = 0; i < 4; i++) {
            Short.member(x, 2, 0, 11, 1, lists[i]);
            Short.face(x, 11, lists[i]);
        }
        for (int i = 0; i < 4; i++) {
            due.is(i + " arguments", x.search(r, i, 1), i);
            due.is(i + " arguments", x.meant(r, i), i);
        }
    }

    private static void secondSearchIfFirstIsThere() {
        due.sentence("a second one for those behind the first, if that is there");
        ReferenceRules x = withTypes();
        int none = Short.member(x, 2, 0, 11, 0);
        int two = Short.member(x, 2, 0, 11, 0, 10, 10);
        Short.member(x, 2, 0, 11, 4, 10, 10, 30);
        int r = x.reference(0, 2, 0);
        int empty = Short.face(x, 11);
        due.is("no ARGUMENTS: the first finds one", x.search(r, empty, 1), none);
        due.is("no ARGUMENTS: no second", x.search(r, empty, 2), NONE);
        due.is("no ARGUMENTS: phase 0", x.phase(r, empty, 2), 0);
        due.is("no ARGUMENTS: meant", x.meant(r, empty), FAULT_3);
        int alone = Short.face(x, 11, 2);
        due.is("one ARGUMENT: nothing is behind it", x.search(r, alone, 2), none);
        due.is("one ARGUMENT: meant", x.meant(r, alone), none);
        int all = Short.face(x, 11, 2, 10, 10);
        due.is("three ARGUMENTS: two are behind it", x.search(r, all, 2), two);
        due.is("three ARGUMENTS: phase", x.phase(r, all, 2), 1);
        due.is("three ARGUMENTS: meant", x.meant(r, all), two);
    }

    private static void secondSearchIfFirstIsUnder() {
        due.sentence("and UNDER the TYPE (else its FIT is empty).");
        ReferenceRules x = withTypes();
        int m = Short.member(x, 3, 0, 11, 0);
        int r = x.reference(0, 3, 0);
        int[] first = {3, 4, 2, 0, 5, 1, 10, 23, 30};
        for (int t : first) {
            int f = Short.face(x, 11, t);
            boolean isUnder = t == 3 || t == 4;
            due.is("first is " + t, x.search(r, f, 2), isUnder ? m : NONE);
            due.is("first is " + t, x.phase(r, f, 2), isUnder ? 1 : 0);
            due.is("first is " + t, x.meant(r, f), isUnder ? m : FAULT_1);
        }
        ReferenceRules y = withTypes();
        int ofAny = Short.member(y, 0, 0, 11, 0);
        int s = y.reference(0, 0, 0);
        due.is("an INT is not UNDER ANY", y.meant(s, Short.face(y, 11, 10)), FAULT_1);
        due.is("a BOX is", y.meant(s, Short.face(y, 11, 1)), ofAny);
        int ofBox = y.reference(0, 1, 0);
        due.is("an INT is not UNDER BOX", y.meant(ofBox, 0), FAULT_1);
        due.is("a BOX is", y.meant(ofBox, 1), ofAny);
    }

    private static void firstIfStatic() {
        due.sentence("What the first found, if it is STATIC and the second's FIT has none but STATIC ones;");
        ReferenceRules x = withTypes();
        int f = Short.face(x, 11, 4, 4);
        int s = Short.member(x, 2, 0, 11, 1, 2, 2);
        int r = x.reference(0, 2, 0);
        due.is("the second's FIT is empty", x.meant(r, f), s);
        Short.member(x, 2, 0, 11, 1, 2);
        due.is("it has a STATIC one", x.meant(r, f), s);
        Short.member(x, 2, 0, 11, 1, 3);
        due.is("it has two STATIC ones", x.meant(r, f), s);
        Short.member(x, 2, 0, 11, 0, 0);
        due.is("it has another one, too, that it does not find", x.search(r, f, 2), 2);
        due.is("that is FAULT 2", x.meant(r, f), FAULT_2);
        Short.member(x, 2, 1, 11, 0, 2, 3);
        Short.member(x, 2, 1, 11, 1, 2, 2);
        int q = x.reference(0, 2, 1);
        due.is("the first finds one that is not STATIC", x.search(q, f, 1), 4);
        due.is("its FIT has a STATIC one, too", x.meant(q, f), FAULT_2);
    }

    private static void secondIfNotStatic() {
        due.sentence("else what the second found, if it is not STATIC and the first's FIT has no STATIC one;");
        ReferenceRules x = withTypes();
        int f = Short.face(x, 11, 4, 4);
        int m = Short.member(x, 2, 0, 11, 0, 4);
        int r = x.reference(0, 2, 0);
        due.is("the first's FIT is empty", x.meant(r, f), m);
        Short.member(x, 2, 0, 11, 0, 2, 0);
        due.is("it has one that is not STATIC", x.meant(r, f), m);
        Short.member(x, 2, 0, 11, 0, 0, 2);
        due.is("it has two, none SPECIAL", x.search(r, f, 1), TWO);
        due.is("two that are not STATIC", x.meant(r, f), m);
        Short.member(x, 2, 0, 11, 1, 3);
        due.is("the second's FIT has a STATIC one, too, that it does not find", x.meant(r, f), m);
        Short.member(x, 2, 0, 11, 1, 0, 0);
        due.is("the first's FIT has a STATIC one, too, that it does not find", x.meant(r, f), FAULT_2);
    }

    private static void faultOneIfBothAreEmpty() {
        due.sentence("else FAULT 1, if both FITS are empty,");
        ReferenceRules x = withTypes();
        int r = x.reference(0, 2, 0);
        int[] faces = {Short.face(x, 11), Short.face(x, 11, 2), Short.face(x, 11, 2, 10, 10)};
        for (int f : faces) {
            due.is("no members", x.meant(r, f), FAULT_1);
        }
        Short.member(x, 2, 0, 11, 0, 5);
        Short.member(x, 2, 0, 11, 1, 5, 5);
        for (int f : faces) {
            due.is("none fits", x.meant(r, f), FAULT_1);
        }
    }

    private static void faultThreeOfTypeName() {
        due.sentence("3, if the first's has no STATIC one and the second's none but STATIC ones,");
        ReferenceRules x = withTypes();
        int r = x.reference(0, 2, 0);
        int one = Short.face(x, 11, 2);
        Short.member(x, 2, 0, 11, 1);
        due.is("empty and STATIC", x.meant(r, one), FAULT_3);
        Short.member(x, 2, 0, 11, 0, 2);
        due.is("not STATIC and STATIC", x.meant(r, one), FAULT_3);
        int q = x.reference(0, 2, 1);
        Short.member(x, 2, 1, 11, 0, 2);
        due.is("not STATIC and empty", x.meant(q, one), FAULT_3);
        int two = Short.face(x, 11, 2, 2);
        Short.member(x, 2, 2, 11, 0, 2, 0);
        Short.member(x, 2, 2, 11, 0, 0, 2);
        due.is("TWO that are not STATIC and empty", x.meant(x.reference(0, 2, 2), two), FAULT_3);
        int three = Short.face(x, 11, 2, 2, 2);
        Short.member(x, 2, 3, 11, 1, 2, 0);
        Short.member(x, 2, 3, 11, 1, 0, 2);
        due.is("empty and TWO that are STATIC", x.meant(x.reference(0, 2, 3), three), FAULT_3);
    }

    private static void elseFaultTwo() {
        due.sentence("else 2.");
        ReferenceRules x = withTypes();
        int one = Short.face(x, 11, 2);
        Short.member(x, 2, 0, 11, 1, 2);
        Short.member(x, 2, 0, 11, 0);
        due.is("STATIC and not STATIC", x.meant(x.reference(0, 2, 0), one), FAULT_2);
        int two = Short.face(x, 11, 2, 2);
        Short.member(x, 2, 1, 11, 1, 2, 0);
        Short.member(x, 2, 1, 11, 1, 0, 2);
        due.is("TWO that are STATIC and empty", x.meant(x.reference(0, 2, 1), two), FAULT_2);
        Short.member(x, 2, 1, 11, 1, 2);
        due.is("TWO that are STATIC and STATIC", x.meant(x.reference(0, 2, 1), two), FAULT_2);
        int three = Short.face(x, 11, 2, 2, 2);
        Short.member(x, 2, 2, 11, 0, 2, 0);
        Short.member(x, 2, 2, 11, 0, 0, 2);
        due.is("empty and TWO that are not STATIC", x.meant(x.reference(0, 2, 2), three), FAULT_2);
        Short.member(x, 2, 3, 11, 1, 2, 0);
        Short.member(x, 2, 3, 11, 0, 0, 2);
        due.is("empty and TWO, one of them STATIC", x.meant(x.reference(0, 2, 3), three), FAULT_2);
        Short.member(x, 2, 4, 11, 1, 2);
        Short.member(x, 2, 4, 11, 0, 0);
        due.is("empty, and the second finds a STATIC one of two", x.meant(x.reference(0, 2, 4), two), FAULT_2);
    }

    private static void valueNameFaults() {
        due.sentence("a SEARCH in the TYPE for all: FAULT 1 NONE, 2 TWO, 3 if it is STATIC.");
        ReferenceRules x = withTypes();
        int two = Short.face(x, 11, 2, 2);
        int r = x.reference(1, 3, 0);
        due.is("NONE", x.meant(r, two), FAULT_1);
        Short.member(x, 2, 0, 11, 1, 2, 0);
        due.is("STATIC", x.meant(r, two), FAULT_3);
        Short.member(x, 2, 0, 11, 1, 0, 2);
        due.is("TWO that are STATIC", x.meant(r, two), FAULT_2);
        int m = Short.member(x, 3, 0, 11, 0, 2, 2);
        due.is("one that is not, with STATIC ones in the FIT", x.meant(r, two), m);
        due.is("there is no second SEARCH", x.search(r, two, 2), BAD);
        Short.member(x, 3, 1, 11, 0, 2);
        due.is("nor for those behind the first", x.meant(x.reference(1, 3, 1), two), FAULT_1);
        Short.member(x, 3, 2, 11, 2, 2, 2);
        due.is("ABSTRACT is fine", x.meant(x.reference(1, 3, 2), two), 4);
    }

    private static void superNotAny() {
        due.sentence("FORM 2, super::NAME, within the TYPE (not ANY):");
        ReferenceRules x = Short.lineOfTypes();
        due.is("ANY", x.reference(2, 0, 0), BAD);
        for (int t = 1; t <= 9; t++) {
            due.is("within " + t, x.reference(2, t, 0), t - 1);
        }
        due.is("INT", x.reference(2, 10, 0), BAD);
    }

    private static void superInTheParent() {
        due.sentence("likewise in its PARENT;");
        ReferenceRules x = withTypes();
        int none = Short.face(x, 11);
        int two = Short.face(x, 11, 2, 2);
        int r = x.reference(2, 3, 0);
        Short.member(x, 3, 0, 11, 0);
        due.is("its own is not the PARENT's: NONE", x.meant(r, none), FAULT_1);
        int ofAny = Short.member(x, 0, 0, 11, 0);
        due.is("the PARENT HAS it from ANY", x.meant(r, none), ofAny);
        due.is("of a TYPE below ANY", x.meant(x.reference(2, 5, 0), none), ofAny);
        due.is("of BOX", x.meant(x.reference(2, 1, 0), none), ofAny);
        Short.member(x, 2, 1, 11, 1);
        due.is("STATIC", x.meant(x.reference(2, 3, 1), none), FAULT_3);
        Short.member(x, 2, 2, 11, 0, 2, 0);
        Short.member(x, 2, 2, 11, 0, 0, 2);
        Short.member(x, 3, 2, 11, 0, 2, 2);
        due.is("TWO", x.meant(x.reference(2, 3, 2), two), FAULT_2);
        due.is("there is no second SEARCH", x.search(x.reference(2, 3, 2), two, 2), BAD);
    }

    private static void superAbstract() {
        due.sentence("then 4, if it is ABSTRACT.");
        ReferenceRules x = withTypes();
        int f = Short.face(x, 11, 4);
        Short.member(x, 2, 0, 11, 2, 2);
        int r = x.reference(2, 4, 0);
        due.is("ABSTRACT, of the PARENT's PARENT", x.meant(r, f), FAULT_4);
        int m = Short.member(x, 3, 0, 11, 0, 2);
        due.is("hidden in the PARENT", x.meant(r, f), m);
        due.is("still ABSTRACT above", x.meant(x.reference(2, 3, 0), f), FAULT_4);
        Short.member(x, 3, 0, 11, 2, 0);
        due.is("ABSTRACT in the FIT, but not found", x.meant(r, f), m);
    }

    private static void newOfOpen() {
        due.sentence("FORM 3, TYPE::new (of 0, 2 to 9): FAULT 4, if it is OPEN;");
        ReferenceRules x = withTypes();
        int none = Short.face(x, 11);
        int one = Short.face(x, 5, 10);
        int[] bad = {-1, 1, 6, 10, 11, 20, 30};
        for (int t : bad) {
            due.is("of " + t, x.reference(3, t, 0), BAD);
        }
        int r = x.reference(3, 3, 0);
        Short.member(x, 2, 0, 11, 2);
        due.is("OPEN without MAKERS", x.meant(r, none), FAULT_4);
        due.is("OPEN ahead of 1 and 5", x.meant(r, one), FAULT_4);
        Short.member(x, 3, 6, 3, 0);
        due.is("OPEN with a MAKER", x.meant(r, none), FAULT_4);
        Short.member(x, 3, 0, 11, 0);
        due.is("not OPEN any more", x.meant(r, none), 1);
        due.is("ANY is never OPEN", x.meant(x.reference(3, 0, 0), none), PLAIN);
    }

    private static void newAmongMakers() {
        due.sentence("a SEARCH among its MAKERS, 1, 2 as above;");
        ReferenceRules x = withTypes();
        int none = Short.face(x, 11);
        int two = Short.face(x, 11, 10, 10);
        int r = x.reference(3, 3, 0);
        Short.member(x, 3, 6, 3, 0, 10, 0);
        due.is("NONE for no ARGUMENTS, PLAIN no more", x.meant(r, none), FAULT_1);
        due.is("one", x.meant(r, two), 0);
        Short.member(x, 3, 6, 3, 0, 0, 10);
        due.is("TWO", x.meant(r, two), FAULT_2);
        Short.member(x, 2, 6, 2, 0);
        due.is("the PARENT's MAKER is not its own", x.meant(r, none), FAULT_1);
        int varied = Short.member(x, 3, 6, 3, 4, 20);
        due.is("a VARIED one for no ARGUMENTS", x.meant(r, none), varied);
        due.is("PHASE 2 is ahead of it", x.meant(r, two), FAULT_2);
        due.is("NAMES 0 to 5 are no MAKERS", x.member(3, 0, 11, 0), 4);
        due.is("still the VARIED one", x.meant(r, none), varied);
    }

    private static void newWithoutMakers() {
        due.sentence("if it HAS no MAKER: PLAIN for no ARGUMENTS, else 1.");
        ReferenceRules x = withTypes();
        int[] faces = {Short.face(x, 11), Short.face(x, 11, 10), Short.face(x, 11, 2, 2), Short.face(x, 11, 0, 0, 0)};
        int r = x.reference(3, 3, 0);
        Short.member(x, 2, 6, 2, 4, 20);
        for (int i = 0; i < faces.length; i++) {
            due.is(i + " ARGUMENTS", x.meant(r, faces[i]), i == 0 ? PLAIN : FAULT_1);
            due.is("there is no SEARCH", x.search(r, faces[i], 1), STATE);
            due.is("there is no PHASE", x.phase(r, faces[i], 1), STATE);
        }
    }

    private static void rowByOneArgument() {
        due.sentence("FORM 4, TYPE[]::new (of 0 to 10): PLAIN, if there is one ARGUMENT, LOOSE for INT; else 1.");
        ReferenceRules x = Short.lineOfTypes();
        for (int t = 0; t <= 10; t++) {
            due.is("of " + t, x.reference(4, t, 0), t);
        }
        int[] bad = {-1, 11, 12, 19, 20, 29, 30, 31};
        for (int t : bad) {
            due.is("of " + t, x.reference(4, t, 0), BAD);
        }
        int[][] lists = {{}, {10}, {1}, {0}, {9}, {30}, {10, 10}, {1, 1}, {10, 10, 10}};
        for (int[] list : lists) {
            int f = Short.face(x, 11, list);
            boolean isGood = list.length == 1 && (list[0] == 10 || list[0] == 1);
            for (int r = 0; r <= 10; r++) {
                due.is("row of " + r + ", face " + f, x.meant(r, f), isGood ? PLAIN : FAULT_1);
            }
        }
    }

    private static void faultFiveBehindAll() {
        due.sentence("Behind all FAULT 5:");
        ReferenceRules x = withTypes();
        int f = Short.face(x, 30, 2, 2);
        int none = Short.face(x, 30);
        due.is("1 of FORM 0", x.meant(x.reference(0, 2, 0), f), FAULT_1);
        due.is("1 of FORM 1", x.meant(x.reference(1, 2, 0), f), FAULT_1);
        due.is("1 of FORM 2", x.meant(x.reference(2, 2, 0), f), FAULT_1);
        due.is("1 of FORM 3", x.meant(x.reference(3, 2, 0), f), FAULT_1);
        due.is("1 of FORM 4", x.meant(x.reference(4, 2, 0), f), FAULT_1);
        Short.member(x, 2, 0, 10, 1, 2, 0);
        due.is("5 of FORM 0", x.meant(x.reference(0, 2, 0), f), FAULT_5);
        due.is("3 of FORM 1", x.meant(x.reference(1, 2, 0), f), FAULT_3);
        due.is("3 of FORM 2", x.meant(x.reference(2, 3, 0), f), FAULT_3);
        Short.member(x, 2, 0, 10, 1, 0, 2);
        due.is("2 of FORM 0", x.meant(x.reference(0, 2, 0), f), FAULT_2);
        due.is("2 of FORM 1", x.meant(x.reference(1, 2, 0), f), FAULT_2);
        due.is("5 of FORM 3", x.meant(x.reference(3, 2, 0), none), FAULT_5);
        due.is("5 of FORM 4", x.meant(x.reference(4, 2, 0), Short.face(x, 30, 10)), FAULT_5);
        Short.member(x, 2, 1, 10, 2);
        due.is("5 of FORM 1", x.meant(x.reference(1, 2, 1), none), FAULT_5);
        due.is("4 of FORM 2", x.meant(x.reference(2, 3, 1), none), FAULT_4);
        due.is("4 of FORM 3", x.meant(x.reference(3, 2, 0), none), FAULT_4);
    }

    private static void faultFiveNotForVoid() {
        due.sentence("the FACE's RESULT is not VOID,");
        ReferenceRules x = Short.lineOfTypes();
        int[] results = {0, 1, 9, 10, 11, 20, 29, 30};
        int f = Short.face(x, 11);
        for (int result : results) {
            ReferenceRules y = Short.lineOfTypes();
            Short.member(y, 2, 0, result, 1);
            due.is(result + " for VOID", y.meant(y.reference(0, 2, 0), Short.face(y, 11)), 0);
        }
        due.is("PLAIN for VOID", x.meant(x.reference(3, 9, 0), f), PLAIN);
        due.is("a ROW for VOID", x.meant(x.reference(4, 9, 0), Short.face(x, 11, 1)), PLAIN);
    }

    private static void faultFiveByWhatComes() {
        due.sentence("and what comes (the RESULT; of FORMS 3, 4 the TYPE, its ROW) is not LOOSE for it.");
        int[] results = {0, 1, 2, 3, 10, 11, 20, 22, 23, 30};
        int[] faces = {0, 1, 2, 10, 20, 22, 30};
        for (int result : results) {
            for (int wanted : faces) {
                ReferenceRules x = withTypes();
                Short.member(x, 2, 0, result, 0);
                int meant = x.meant(x.reference(1, 2, 0), Short.face(x, wanted));
                due.is("RESULT " + result + " for " + wanted, meant, x.loose(result, wanted) == 1 ? 0 : FAULT_5);
            }
        }
        for (int wanted : faces) {
            ReferenceRules x = withTypes();
            int f = Short.face(x, wanted);
            int sized = Short.face(x, wanted, 10);
            int three = x.meant(x.reference(3, 3, 0), f);
            due.is("a 3 for " + wanted, three, wanted == 0 || wanted == 2 ? PLAIN : FAULT_5);
            int rowOf3 = x.meant(x.reference(4, 3, 0), sized);
            due.is("a ROW of 3 for " + wanted, rowOf3, wanted == 0 || wanted == 20 || wanted == 22 ? PLAIN : FAULT_5);
            int ints = x.meant(x.reference(4, 10, 0), sized);
            due.is("a ROW of INTS for " + wanted, ints, wanted == 0 || wanted == 30 ? PLAIN : FAULT_5);
        }
    }

    private static void exactByOneAlone() {
        due.sentence("EXACT: FORMS 0 to 2: one MEMBER of the NAME alone is HAD (2: by the PARENT), which is not VARIED;");
        ReferenceRules x = withTypes();
        int r = x.reference(0, 3, 0);
        int v = x.reference(1, 3, 0);
        due.is("none", x.exact(r) + x.exact(v), 0);
        Short.member(x, 4, 0, 11, 0);
        due.is("one below", x.exact(r) + x.exact(v), 0);
        Short.member(x, 2, 0, 11, 0, 10);
        due.is("one from above", x.exact(r) + x.exact(v), 2);
        Short.member(x, 3, 0, 11, 0, 10);
        due.is("one that hides it", x.exact(r) + x.exact(v), 2);
        Short.member(x, 0, 0, 11, 1, 10, 10);
        due.is("two", x.exact(r) + x.exact(v), 0);
        Short.member(x, 3, 1, 11, 1);
        due.is("a STATIC one", x.exact(x.reference(1, 3, 1)), 1);
        Short.member(x, 3, 2, 11, 2);
        due.is("an ABSTRACT one", x.exact(x.reference(0, 3, 2)), 1);
        Short.member(x, 3, 3, 11, 4, 30);
        due.is("a VARIED one", x.exact(x.reference(0, 3, 3)), 0);
        due.is("a VARIED one of a value", x.exact(x.reference(1, 3, 3)), 0);
    }

    private static void exactOfSuper() {
        due.sentence("(2: by the PARENT)");
        ReferenceRules x = withTypes();
        int r = x.reference(2, 3, 0);
        Short.member(x, 3, 0, 11, 0);
        due.is("its own alone", x.exact(r), 0);
        Short.member(x, 2, 0, 11, 0);
        due.is("the PARENT's", x.exact(r), 1);
        Short.member(x, 3, 0, 11, 0, 10);
        due.is("a second one of its own", x.exact(r), 1);
        Short.member(x, 0, 0, 11, 4, 30);
        due.is("a second one of the PARENT's", x.exact(r), 0);
        due.is("of BOX: ANY's VARIED one", x.exact(x.reference(2, 1, 0)), 0);
    }

    private static void exactOfMakers() {
        due.sentence("3: not more than one MAKER, not VARIED;");
        ReferenceRules x = withTypes();
        int r = x.reference(3, 3, 0);
        due.is("none", x.exact(r), 1);
        Short.member(x, 2, 6, 2, 0, 10);
        Short.member(x, 2, 6, 2, 0);
        due.is("two of the PARENT's", x.exact(r), 1);
        Short.member(x, 3, 6, 3, 0, 10);
        due.is("one", x.exact(r), 1);
        Short.member(x, 3, 6, 3, 0);
        due.is("two", x.exact(r), 0);
        Short.member(x, 4, 6, 4, 4, 30);
        due.is("one that is VARIED", x.exact(x.reference(3, 4, 0)), 0);
    }

    private static void exactOfRows() {
        due.sentence("4 always.");
        ReferenceRules x = withTypes();
        int[] types = {0, 1, 2, 10};
        Short.member(x, 2, 6, 2, 0);
        Short.member(x, 2, 6, 2, 4, 30);
        Short.member(x, 2, 0, 11, 2);
        for (int t : types) {
            due.is("a ROW of " + t, x.exact(x.reference(4, t, 0)), 1);
        }
    }
}
