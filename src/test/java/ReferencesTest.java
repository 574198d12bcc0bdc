/** Promises 10 to 15: face, reference, meant, search, phase, exact. */
public final class ReferencesTest {
    private static final int BAD = ReferenceRules.BAD, FULL = ReferenceRules.FULL, STATE = ReferenceRules.STATE;
    private static final int NONE = ReferenceRules.NONE, TWO = ReferenceRules.TWO, PLAIN = ReferenceRules.PLAIN;
    private static final int FAULT_1 = -11, FAULT_2 = -12, FAULT_3 = -13, FAULT_4 = -14, FAULT_5 = -15;
    private static final Due due = new Due();

    public static void main(String[] args) {
        face();
        reference();
        wrongNumbers();
        phases();
        phaseThreeCounts();
        special();
        specialInPhaseThree();
        searchGoesOverWhatIsHad();
        typeNameTakesStatic();
        typeNameTakesTheSecond();
        typeNameFaults();
        valueName();
        superName();
        typeNew();
        typeNewSearch();
        rowNew();
        faultFive();
        searchRefusals();
        exact();
        due.end();
    }

    /** 2 below ANY, 3 below 2, 4 below 3, 5 below ANY. */
    private static ReferenceRules withTypes() {
        ReferenceRules x = new ReferenceRules();
        x.type(0);
        x.type(2);
        x.type(3);
        x.type(0);
        return x;
    }

    private static void face() {
        ReferenceRules x = withTypes();
        x.tell(10);
        x.tell(2);
        int[] bad = {-1, 6, 9, 12, 19, 26, 29, 31, Integer.MIN_VALUE, Integer.MAX_VALUE};
        for (int result : bad) {
            due.is("face(" + result + ")", x.face(result), BAD);
        }
        due.is("what was told stays after BAD", x.untell(), 2);
        int[] good = {0, 1, 2, 5, 10, 11, 20, 25, 30, 10};
        for (int i = 0; i < good.length; i++) {
            x.tell(10);
            due.is("face(" + good[i] + ")", x.face(good[i]), i);
            due.is("what was told is gone", x.untell(), 0);
        }
        x.tell(30);
        due.is("the 11th face", x.face(10), FULL);
        due.is("BAD ahead of FULL", x.face(12), BAD);
        due.is("what was told stays after FULL", x.untell(), 1);
        due.is("count(2)", x.count(2), 10);
    }

    private static void reference() {
        ReferenceRules x = withTypes();
        boolean[][] good = new boolean[6][32];
        for (int t = 0; t <= 5; t++) {
            good[0][t] = true;
            good[1][t] = true;
            good[2][t] = t != 0;
            good[3][t] = t != 1;
            good[4][t] = true;
        }
        good[4][10] = true;
        int made = 0;
        for (int form = 0; form <= 4; form++) {
            for (int t = -1; t <= 31; t++) {
                boolean isGood = t >= 0 && good[form][t];
                due.is("reference(" + form + ", " + t + ", 3)", x.reference(form, t, 3), isGood ? made : BAD);
                made += isGood ? 1 : 0;
            }
        }
        due.is("count(3)", x.count(3), made);
        due.is("form -1", x.reference(-1, 2, 0), BAD);
        due.is("form 5", x.reference(5, 2, 0), BAD);
        referenceNames();
        referenceFull();
    }

    private static void referenceNames() {
        ReferenceRules x = withTypes();
        int made = 0;
        int[] names = {-1, 0, 5, 6, 7, Integer.MIN_VALUE, Integer.MAX_VALUE};
        for (int form = 0; form <= 4; form++) {
            for (int name : names) {
                boolean isGood = form > 2 || name >= 0 && name <= 5;
                due.is("form " + form + ", name " + name, x.reference(form, 2, name), isGood ? made : BAD);
                made += isGood ? 1 : 0;
            }
        }
    }

    private static void referenceFull() {
        ReferenceRules x = withTypes();
        for (int i = 0; i < 30; i++) {
            due.is("reference " + i, x.reference(i % 5, 2, 0), i);
        }
        due.is("the 31st", x.reference(0, 2, 0), FULL);
        due.is("BAD ahead of FULL", x.reference(0, 2, 6), BAD);
        due.is("count(3)", x.count(3), 30);
    }

    private static void wrongNumbers() {
        ReferenceRules x = withTypes();
        int f = Short.face(x, 11);
        int r = x.reference(0, 2, 0);
        int[] wrong = {-1, 1, 30, Integer.MIN_VALUE, Integer.MAX_VALUE};
        for (int w : wrong) {
            due.is("meant, no reference " + w, x.meant(w, f), BAD);
            due.is("meant, no face " + w, x.meant(r, w), BAD);
            due.is("search, no reference " + w, x.search(w, f, 1), BAD);
            due.is("search, no face " + w, x.search(r, w, 1), BAD);
            due.is("phase, no reference " + w, x.phase(w, f, 1), BAD);
            due.is("phase, no face " + w, x.phase(r, w, 1), BAD);
            due.is("exact, no reference " + w, x.exact(w), BAD);
        }
    }

    private static void isFound(String what, ReferenceRules x, int r, int f, int number, int phase) {
        due.is(what + ": search", x.search(r, f, 1), number);
        due.is(what + ": phase", x.phase(r, f, 1), phase);
    }

    private static void phases() {
        ReferenceRules x = withTypes();
        int ofAny = Short.member(x, 2, 0, 10, 0, 0);
        int ofInt = Short.member(x, 2, 1, 10, 0, 10);
        int ofBox = Short.member(x, 2, 2, 10, 0, 1);
        int varied = Short.member(x, 2, 2, 10, 4, 30);
        int onlyVaried = Short.member(x, 2, 3, 10, 4, 21);
        int int1 = Short.face(x, 11, 10);
        int box1 = Short.face(x, 11, 1);
        int two1 = Short.face(x, 11, 2);
        int ints1 = Short.face(x, 11, 30);
        int none = Short.face(x, 11);
        int any1 = Short.face(x, 11, 0);
        int boxes1 = Short.face(x, 11, 21);
        int[] r = {x.reference(1, 2, 0), x.reference(1, 2, 1), x.reference(1, 2, 2), x.reference(1, 2, 3)};
        isFound("INT for ANY", x, r[0], int1, ofAny, 2);
        isFound("BOX for ANY", x, r[0], box1, ofAny, 1);
        isFound("2 for ANY", x, r[0], two1, ofAny, 1);
        isFound("a row for ANY", x, r[0], ints1, ofAny, 1);
        isFound("nothing for ANY", x, r[0], none, NONE, 0);
        isFound("BOX for INT", x, r[1], box1, ofInt, 2);
        isFound("INT for INT", x, r[1], int1, ofInt, 1);
        isFound("ANY for INT", x, r[1], any1, NONE, 0);
        isFound("INT for BOX ahead of INT...", x, r[2], int1, ofBox, 2);
        isFound("a row of INTS for INT...", x, r[2], ints1, varied, 1);
        isFound("nothing for INT...", x, r[2], none, varied, 3);
        isFound("INT for BOX...", x, r[3], int1, onlyVaried, 3);
        isFound("BOX for BOX...", x, r[3], box1, onlyVaried, 3);
        isFound("a row of BOXES for BOX...", x, r[3], boxes1, onlyVaried, 1);
        isFound("a row of INTS for BOX...", x, r[3], ints1, NONE, 0);
        isFound("ANY for BOX...", x, r[3], any1, NONE, 0);
    }

    private static void phaseThreeCounts() {
        ReferenceRules x = withTypes();
        int m = Short.member(x, 2, 0, 10, 4, 2, 10, 30);
        int r = x.reference(1, 2, 0);
        isFound("two less", x, r, Short.face(x, 11, 2), NONE, 0);
        isFound("none at all", x, r, Short.face(x, 11), NONE, 0);
        isFound("one less", x, r, Short.face(x, 11, 3, 1), m, 3);
        isFound("as many", x, r, Short.face(x, 11, 3, 1, 1), m, 3);
        isFound("as many, the row", x, r, Short.face(x, 11, 3, 10, 30), m, 1);
        isFound("as many, the row, loose", x, r, Short.face(x, 11, 3, 1, 30), m, 2);
        isFound("wrong one ahead", x, r, Short.face(x, 11, 5, 10, 10), NONE, 0);
        isFound("wrong one behind", x, r, Short.face(x, 11, 2, 10, 0), NONE, 0);
        int n = Short.member(x, 2, 1, 10, 4, 22);
        int s = x.reference(1, 2, 1);
        isFound("two more", x, s, Short.face(x, 11, 2, 3, 4), n, 3);
        isFound("two more, one wrong", x, s, Short.face(x, 11, 2, 3, 5), NONE, 0);
    }

    private static void special() {
        ReferenceRules x = withTypes();
        int f20 = Short.member(x, 5, 0, 10, 0, 2, 0);
        int f02 = Short.member(x, 5, 0, 10, 0, 0, 2);
        int f33 = Short.member(x, 5, 0, 10, 0, 3, 3);
        int g3 = Short.member(x, 5, 1, 10, 0, 3);
        int g2 = Short.member(x, 5, 1, 10, 0, 2);
        Short.member(x, 5, 1, 10, 0, 0);
        int r = x.reference(1, 5, 0);
        int s = x.reference(1, 5, 1);
        isFound("crossed", x, r, Short.face(x, 11, 2, 2), TWO, 1);
        isFound("crossed, but one fits", x, r, Short.face(x, 11, 2, 5), f20, 1);
        isFound("crossed, but the other fits", x, r, Short.face(x, 11, 5, 2), f02, 1);
        isFound("one below both", x, r, Short.face(x, 11, 3, 4), f33, 1);
        isFound("the most special of three", x, s, Short.face(x, 11, 4), g3, 1);
        isFound("the most special of two", x, s, Short.face(x, 11, 2), g2, 1);
        due.is("TWO is FAULT 2", x.meant(r, 0), FAULT_2);
        int hBoxAny = Short.member(x, 5, 2, 10, 0, 1, 0);
        Short.member(x, 5, 2, 10, 0, 0, 0);
        Short.member(x, 5, 3, 10, 0, 10, 0);
        Short.member(x, 5, 3, 10, 0, 0, 10);
        isFound("in phase 2", x, x.reference(1, 5, 2), Short.face(x, 11, 10, 10), hBoxAny, 2);
        isFound("TWO in phase 2", x, x.reference(1, 5, 3), Short.face(x, 11, 10, 10), TWO, 2);
    }

    private static void specialInPhaseThree() {
        ReferenceRules x = withTypes();
        Short.member(x, 5, 0, 10, 4, 30);
        Short.member(x, 5, 0, 10, 4, 10, 30);
        int r = x.reference(1, 5, 0);
        isFound("INT... and INT, INT...", x, r, Short.face(x, 11, 10), TWO, 3);
        isFound("INT... alone", x, r, Short.face(x, 11), 0, 3);
        int gRow3 = Short.member(x, 5, 1, 10, 4, 23);
        int gRow2 = Short.member(x, 5, 1, 10, 4, 22);
        int s = x.reference(1, 5, 1);
        isFound("3... ahead of 2..., of none", x, s, Short.face(x, 11), gRow3, 3);
        isFound("3... ahead of 2..., of three", x, s, Short.face(x, 11, 3, 4, 4), gRow3, 3);
        isFound("2... alone fits", x, s, Short.face(x, 11, 3, 2, 4), gRow2, 3);
        Short.member(x, 5, 2, 10, 4, 23);
        Short.member(x, 5, 2, 10, 4, 3, 22);
        int t = x.reference(1, 5, 2);
        int one = Short.face(x, 11, 3);
        isFound("places behind the arguments count, too", x, t, one, 4, 3);
        Short.member(x, 5, 3, 10, 4, 22);
        Short.member(x, 5, 3, 10, 4, 3, 20);
        isFound("neither: 2... and 3, ANY...", x, x.reference(1, 5, 3), one, TWO, 3);
        Short.member(x, 5, 4, 10, 4, 30);
        Short.member(x, 5, 4, 10, 4, 21);
        isFound("INT and BOX are not under one another", x, x.reference(1, 5, 4), Short.face(x, 11, 10, 1), TWO, 3);
        int lead = Short.member(x, 5, 5, 10, 4, 3, 20);
        Short.member(x, 5, 5, 10, 4, 2, 20);
        isFound("by the one ahead", x, x.reference(1, 5, 5), one, lead, 3);
    }

    private static void searchGoesOverWhatIsHad() {
        ReferenceRules x = withTypes();
        int ofAny = Short.member(x, 0, 0, 10, 0, 10);
        int of2 = Short.member(x, 2, 0, 10, 0, 10);
        int of3 = Short.member(x, 3, 0, 10, 0, 1);
        Short.member(x, 5, 0, 10, 0, 1);
        int int1 = Short.face(x, 11, 10);
        int box1 = Short.face(x, 11, 1);
        isFound("in ANY", x, x.reference(1, 0, 0), int1, ofAny, 1);
        isFound("in BOX", x, x.reference(1, 1, 0), int1, ofAny, 1);
        isFound("in 2", x, x.reference(1, 2, 0), int1, of2, 1);
        isFound("in 4", x, x.reference(1, 4, 0), int1, of2, 1);
        isFound("in 4", x, x.reference(1, 4, 0), box1, of3, 1);
        isFound("in 2", x, x.reference(1, 2, 0), box1, of2, 2);
        isFound("another name", x, x.reference(1, 4, 1), int1, NONE, 0);
    }

    private static void typeNameTakesStatic() {
        ReferenceRules x = withTypes();
        int s = Short.member(x, 2, 0, 10, 1, 2);
        int r = x.reference(0, 2, 0);
        int f = Short.face(x, 10, 2);
        due.is("static, second empty", x.meant(r, f), s);
        int s2 = Short.member(x, 2, 0, 10, 1);
        due.is("static, second has static alone", x.meant(r, f), s);
        due.is("the second found", x.search(r, f, 2), s2);
        due.is("the second's phase", x.phase(r, f, 2), 1);
        due.is("no first argument: second empty", x.search(r, Short.face(x, 10), 2), NONE);
        due.is("no first argument: phase 0", x.phase(r, 1, 2), 0);
        due.is("no first argument", x.meant(r, 1), s2);
        int f5 = Short.face(x, 10, 5, 10);
        Short.member(x, 2, 1, 10, 0, 10);
        int s3 = Short.member(x, 2, 1, 10, 1, 5, 10);
        int q = x.reference(0, 2, 1);
        due.is("first argument is not under the type", x.search(q, f5, 2), NONE);
        due.is("first argument is not under the type: phase", x.phase(q, f5, 2), 0);
        due.is("first argument is not under the type", x.meant(q, f5), s3);
    }

    private static void typeNameTakesTheSecond() {
        ReferenceRules x = withTypes();
        int m = Short.member(x, 2, 0, 10, 0, 10);
        int r = x.reference(0, 2, 0);
        int f = Short.face(x, 10, 3, 1);
        due.is("first empty", x.search(r, f, 1), NONE);
        due.is("second", x.search(r, f, 2), m);
        due.is("second in phase 2", x.phase(r, f, 2), 2);
        due.is("meant", x.meant(r, f), m);
        int n = Short.member(x, 2, 0, 10, 0, 0, 10);
        due.is("first has no static one", x.search(r, f, 1), n);
        due.is("meant still", x.meant(r, f), m);
        int above = Short.face(x, 10, 0, 10);
        due.is("ANY is not under 2", x.search(r, above, 2), NONE);
        due.is("so there is no static one", x.meant(r, above), FAULT_3);
        int hash = Short.member(x, 0, 1, 10, 0);
        int ofAny = x.reference(0, 0, 1);
        due.is("a row is under ANY", x.meant(ofAny, Short.face(x, 10, 30)), hash);
        due.is("BOX is under ANY", x.meant(ofAny, Short.face(x, 10, 1)), hash);
        due.is("INT is not", x.meant(ofAny, Short.face(x, 10, 10)), FAULT_1);
        due.is("BOX::hash", x.meant(x.reference(0, 1, 1), Short.face(x, 10, 1)), hash);
        due.is("BOX::hash of ANY", x.meant(x.reference(0, 1, 1), Short.face(x, 10, 0)), FAULT_1);
    }

    private static void typeNameFaults() {
        ReferenceRules x = withTypes();
        int f = Short.face(x, 11, 2);
        int r = x.reference(0, 2, 0);
        due.is("both empty", x.meant(r, f), FAULT_1);
        Short.member(x, 2, 0, 10, 1);
        due.is("first empty, second static", x.meant(r, f), FAULT_3);
        Short.member(x, 2, 0, 10, 0, 2);
        due.is("first not static, second static", x.meant(r, f), FAULT_3);
        int q = x.reference(0, 2, 1);
        Short.member(x, 2, 1, 10, 0);
        Short.member(x, 2, 1, 10, 1, 0);
        due.is("both good", x.meant(q, f), FAULT_2);
        int crossed = x.reference(0, 2, 2);
        int g = Short.face(x, 11, 2, 2, 2);
        Short.member(x, 2, 2, 10, 1, 2, 0, 0);
        Short.member(x, 2, 2, 10, 1, 0, 2, 0);
        due.is("first is TWO, static", x.meant(crossed, g), FAULT_2);
        int crossedSecond = x.reference(0, 2, 3);
        Short.member(x, 2, 3, 10, 0, 2, 0);
        Short.member(x, 2, 3, 10, 0, 0, 2);
        due.is("second is TWO", x.search(crossedSecond, g, 2), TWO);
        due.is("second is TWO, not static", x.meant(crossedSecond, g), FAULT_2);
        int mixed = x.reference(0, 2, 4);
        Short.member(x, 2, 4, 10, 0, 3, 3, 3);
        Short.member(x, 2, 4, 10, 1, 2, 2, 2);
        int h = Short.face(x, 11, 4, 4, 4);
        due.is("first finds one that is not static", x.search(mixed, h, 1), 8);
        due.is("its fit has a static one, too", x.meant(mixed, h), FAULT_2);
        Short.member(x, 2, 4, 10, 0, 0, 0);
        due.is("second good, but the first's fit has a static one", x.meant(mixed, h), FAULT_2);
        int hidden = x.reference(0, 2, 5);
        int s = Short.member(x, 2, 5, 10, 1, 2, 2, 2);
        Short.member(x, 2, 5, 10, 1, 3, 3);
        due.is("static, the second's fit is static", x.meant(hidden, h), s);
        Short.member(x, 2, 5, 10, 0, 2, 2);
        due.is("the second finds a static one", x.search(hidden, h, 2), 12);
        due.is("the second's fit has another one, too", x.meant(hidden, h), FAULT_2);
    }

    private static void valueName() {
        ReferenceRules x = withTypes();
        int f = Short.face(x, 11, 10);
        int r = x.reference(1, 3, 0);
        due.is("none", x.meant(r, f), FAULT_1);
        int m = Short.member(x, 2, 0, 10, 2, 10);
        due.is("an abstract one is fine", x.meant(r, f), m);
        Short.member(x, 3, 1, 10, 1, 10);
        due.is("static", x.meant(x.reference(1, 3, 1), f), FAULT_3);
        Short.member(x, 3, 2, 10, 0, 10, 0);
        Short.member(x, 3, 2, 10, 0, 0, 10);
        due.is("two", x.meant(x.reference(1, 3, 2), Short.face(x, 11, 10, 10)), FAULT_2);
    }

    private static void superName() {
        ReferenceRules x = withTypes();
        int f = Short.face(x, 11, 10);
        int r = x.reference(2, 3, 0);
        Short.member(x, 3, 0, 10, 0, 10);
        due.is("its own does not count", x.meant(r, f), FAULT_1);
        due.is("nor for search", x.search(r, f, 1), NONE);
        int of2 = Short.member(x, 2, 0, 10, 0, 10);
        due.is("the parent's", x.meant(r, f), of2);
        due.is("the parent's, search", x.search(r, f, 1), of2);
        due.is("the parent's, phase", x.phase(r, f, 1), 1);
        int ofAny = Short.member(x, 0, 0, 10, 0, 10);
        due.is("of 2: ANY's", x.meant(x.reference(2, 2, 0), f), ofAny);
        due.is("of BOX: ANY's", x.meant(x.reference(2, 1, 0), f), ofAny);
        due.is("still the parent's", x.meant(r, f), of2);
        Short.member(x, 2, 1, 10, 2, 10);
        due.is("abstract", x.meant(x.reference(2, 3, 1), f), FAULT_4);
        Short.member(x, 2, 2, 10, 1, 10);
        due.is("static", x.meant(x.reference(2, 3, 2), f), FAULT_3);
        Short.member(x, 2, 3, 10, 0, 10, 0);
        Short.member(x, 2, 3, 10, 0, 0, 10);
        due.is("two", x.meant(x.reference(2, 3, 3), Short.face(x, 11, 10, 10)), FAULT_2);
        int toInt = Short.face(x, 2, 10);
        due.is("abstract ahead of the result", x.meant(x.reference(2, 3, 1), toInt), FAULT_4);
        due.is("static ahead of the result", x.meant(x.reference(2, 3, 2), toInt), FAULT_3);
    }

    private static void typeNew() {
        ReferenceRules x = withTypes();
        int none = Short.face(x, 11);
        int one = Short.face(x, 11, 10);
        int r = x.reference(3, 2, 77);
        due.is("no maker, no arguments", x.meant(r, none), PLAIN);
        due.is("no maker, an argument", x.meant(r, one), FAULT_1);
        int m = Short.member(x, 2, 6, 2, 0, 1);
        due.is("a maker, but none for no arguments", x.meant(r, none), FAULT_1);
        due.is("a maker in phase 2", x.meant(r, one), m);
        int child = x.reference(3, 3, 0);
        due.is("a parent's maker does not count", x.meant(child, none), PLAIN);
        due.is("a parent's maker does not count", x.meant(child, one), FAULT_1);
        int ofAny = Short.member(x, 0, 6, 0, 0, 10);
        due.is("ANY's maker", x.meant(x.reference(3, 0, 0), one), ofAny);
        due.is("not for 5", x.meant(x.reference(3, 5, 0), one), FAULT_1);
        Short.member(x, 2, 6, 2, 0, 10, 0);
        Short.member(x, 2, 6, 2, 0, 0, 10);
        due.is("two makers", x.meant(r, Short.face(x, 11, 10, 10)), FAULT_2);
        due.is("the type does not suit", x.meant(r, Short.face(x, 3, 10)), FAULT_5);
        due.is("the type suits", x.meant(r, Short.face(x, 0, 10)), m);
        due.is("plain does not suit", x.meant(child, Short.face(x, 5)), FAULT_5);
        due.is("plain suits", x.meant(child, Short.face(x, 2)), PLAIN);
        Short.member(x, 2, 0, 11, 2);
        due.is("open", x.meant(r, one), FAULT_4);
        due.is("open ahead of none", x.meant(r, none), FAULT_4);
        due.is("open below", x.meant(child, none), FAULT_4);
    }

    private static void typeNewSearch() {
        ReferenceRules x = withTypes();
        int none = Short.face(x, 11);
        int r = x.reference(3, 3, 0);
        due.is("without makers", x.search(r, none, 1), STATE);
        due.is("without makers, phase", x.phase(r, none, 1), STATE);
        due.is("which 2", x.search(r, none, 2), BAD);
        Short.member(x, 2, 6, 2, 0);
        due.is("with a parent's maker", x.search(r, none, 1), STATE);
        int m = Short.member(x, 3, 6, 3, 4, 30);
        due.is("with a maker", x.search(r, none, 1), m);
        due.is("with a maker, phase", x.phase(r, none, 1), 3);
        Short.member(x, 2, 0, 11, 2);
        due.is("open", x.search(r, none, 1), STATE);
        due.is("open, phase", x.phase(r, none, 1), STATE);
        due.is("open, which 0", x.phase(r, none, 0), BAD);
    }

    private static void rowNew() {
        ReferenceRules x = withTypes();
        int none = Short.face(x, 11);
        int one = Short.face(x, 11, 10);
        int boxed = Short.face(x, 11, 1);
        int any = Short.face(x, 11, 0);
        int two = Short.face(x, 11, 10, 10);
        int[] types = {0, 1, 2, 5, 10};
        for (int t : types) {
            int r = x.reference(4, t, 0);
            due.is("row of " + t + ", none", x.meant(r, none), FAULT_1);
            due.is("row of " + t + ", INT", x.meant(r, one), PLAIN);
            due.is("row of " + t + ", BOX", x.meant(r, boxed), PLAIN);
            due.is("row of " + t + ", ANY", x.meant(r, any), FAULT_1);
            due.is("row of " + t + ", two", x.meant(r, two), FAULT_1);
            due.is("row of " + t + ", search", x.search(r, one, 1), BAD);
            due.is("row of " + t + ", phase", x.phase(r, one, 1), BAD);
        }
        Short.member(x, 2, 0, 11, 2);
        due.is("row of an open type", x.meant(2, one), PLAIN);
        int rows2 = Short.face(x, 22, 10);
        int ints = Short.face(x, 30, 10);
        int anything = Short.face(x, 0, 10);
        int count = Short.face(x, 10, 10);
        int row3 = x.reference(4, 3, 0);
        int rowOfInts = x.reference(4, 10, 0);
        due.is("row of 3 for row of 2", x.meant(row3, rows2), PLAIN);
        due.is("row of 3 for ANY", x.meant(row3, anything), PLAIN);
        due.is("row of 3 for INTS", x.meant(row3, ints), FAULT_5);
        due.is("row of ANY for row of 2", x.meant(0, rows2), FAULT_5);
        due.is("INTS for INTS", x.meant(rowOfInts, ints), PLAIN);
        due.is("INTS for row of 2", x.meant(rowOfInts, rows2), FAULT_5);
        due.is("INTS for INT", x.meant(rowOfInts, count), FAULT_5);
        due.is("INTS for ANY", x.meant(rowOfInts, anything), PLAIN);
    }

    private static void faultFive() {
        int[][] suits = {{10, 10}, {10, 1}, {10, 0}, {1, 10}, {1, 1}, {1, 0}, {3, 2}, {3, 0}, {23, 22}, {30, 0},
            {11, 11}, {10, 11}, {30, 11}, {3, 11}};
        int[][] not = {{11, 10}, {11, 0}, {10, 2}, {0, 10}, {0, 1}, {2, 3}, {22, 23}, {30, 20}, {10, 30}, {3, 5}};
        for (int[] pair : suits) {
            due.is(pair[0] + " for " + pair[1], meantWithResults(pair[0], pair[1]), 0);
        }
        for (int[] pair : not) {
            due.is(pair[0] + " for " + pair[1], meantWithResults(pair[0], pair[1]), FAULT_5);
        }
    }

    private static int meantWithResults(int result, int faceResult) {
        ReferenceRules x = withTypes();
        Short.member(x, 2, 0, result, 1);
        return x.meant(x.reference(0, 2, 0), Short.face(x, faceResult));
    }

    private static void searchRefusals() {
        ReferenceRules x = withTypes();
        int f = Short.face(x, 11);
        int[] forms = {x.reference(0, 2, 0), x.reference(1, 2, 0), x.reference(2, 2, 0), x.reference(3, 2, 0)};
        int[] wrong = {-1, 0, 3, Integer.MIN_VALUE, Integer.MAX_VALUE};
        for (int r : forms) {
            for (int which : wrong) {
                due.is("search, which " + which, x.search(r, f, which), BAD);
                due.is("phase, which " + which, x.phase(r, f, which), BAD);
            }
            due.is("search, which 2, form " + r, x.search(r, f, 2), r == 0 ? NONE : BAD);
            due.is("phase, which 2, form " + r, x.phase(r, f, 2), r == 0 ? 0 : BAD);
        }
    }

    private static void exact() {
        ReferenceRules x = withTypes();
        int typeName = x.reference(0, 3, 0);
        int valueName = x.reference(1, 3, 0);
        int superName = x.reference(2, 3, 0);
        int typeNew = x.reference(3, 3, 0);
        int rowNew = x.reference(4, 3, 0);
        areExact("nothing", x, 0, 0, 0, 1, 1);
        Short.member(x, 3, 0, 10, 0, 10);
        areExact("its own one", x, 1, 1, 0, 1, 1);
        Short.member(x, 2, 0, 10, 0, 10);
        areExact("one that hides the parent's", x, 1, 1, 1, 1, 1);
        Short.member(x, 3, 6, 3, 0, 10);
        areExact("a maker", x, 1, 1, 1, 1, 1);
        Short.member(x, 3, 6, 3, 0);
        areExact("two makers", x, 1, 1, 1, 0, 1);
        Short.member(x, 0, 0, 10, 0);
        areExact("two names", x, 0, 0, 0, 0, 1);
        due.is("references", typeName + valueName + superName + typeNew + rowNew, 10);
        exactVaried();
    }

    private static void exactVaried() {
        ReferenceRules x = withTypes();
        x.reference(0, 3, 0);
        x.reference(1, 3, 0);
        x.reference(2, 3, 0);
        x.reference(3, 3, 0);
        x.reference(4, 3, 0);
        Short.member(x, 2, 0, 10, 4, 30);
        areExact("a varied one", x, 0, 0, 0, 1, 1);
        Short.member(x, 3, 6, 3, 4, 30);
        areExact("a varied maker", x, 0, 0, 0, 0, 1);
        ReferenceRules y = withTypes();
        y.reference(3, 3, 0);
        Short.member(y, 2, 0, 11, 2);
        due.is("an open type without makers", y.exact(0), 1);
        Short.member(y, 2, 6, 2, 4, 30);
        due.is("a parent's varied maker", y.exact(0), 1);
    }

    private static void areExact(String what, ReferenceRules x, int... exact) {
        for (int r = 0; r < exact.length; r++) {
            due.is(what + ": exact(" + r + ")", x.exact(r), exact[r]);
        }
    }
}
