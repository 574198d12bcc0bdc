/** The boundary cases that the promises 1 to 26 name, a test for each of their sentences. */
public final class PromiseBoundariesTest {
    private static final int BAD = ReferenceRules.BAD, FULL = ReferenceRules.FULL, STATE = ReferenceRules.STATE;
    private static final int NONE = ReferenceRules.NONE, TWO = ReferenceRules.TWO, CLASH = ReferenceRules.CLASH;
    private static final int NULL = ReferenceRules.NULL, SIZE = ReferenceRules.SIZE, PLAIN = ReferenceRules.PLAIN;
    private static final int MIN = Integer.MIN_VALUE, MAX = Integer.MAX_VALUE;
    private static final Due due = new Due();

    public static void main(String[] args) {
        objectsAreUsedFor512Calls();
        newObject();
        type();
        typeRefused();
        under();
        loose();
        tell();
        untell();
        memberTakesWhatIsTold();
        memberBad();
        memberOfMakersBad();
        memberState();
        memberClashInItsType();
        memberClashWithAnother();
        memberFull();
        has();
        open();
        face();
        reference();
        meant();
        searchWhich();
        searchState();
        phase();
        exact();
        thing();
        box();
        of();
        place();
        makeBad();
        makeState();
        makeNull();
        makeFull();
        arg();
        callTakesTheFirstArgs();
        callBad();
        callStops();
        result();
        traced();
        count();
        clear();
        due.end();
    }

    /** 2 below ANY, 3 below 2, 4 below 3, 5 below ANY. */
    private static ReferenceRules withTypes() {
        return Short.types(0, 2, 3, 0);
    }

    private static void objectsAreUsedFor512Calls() {
        due.sentence("An object is used for at most 512 calls after it has been made; what later calls answer is free.");
        ReferenceRules x = new ReferenceRules();
        due.is("type", x.type(0), 2);
        due.is("tell", x.tell(10), 1);
        due.is("member", x.member(2, 0, 10, 1), 0);
        due.is("tell", x.tell(10), 1);
        due.is("face", x.face(10), 0);
        due.is("reference", x.reference(0, 2, 0), 0);
        due.is("make", x.make(0, 0, 0), 0);
        int calls = 7;
        while (calls + 3 <= 512) {
            due.is("arg", x.arg(0, calls), 1);
            due.is("call", x.call(0), 1);
            due.is("result", x.result(), calls);
            calls += 3;
        }
        while (calls < 512) {
            due.is("count", x.count(0), 3);
            calls++;
        }
        x.call(0);
        x.clear();
    }

    private static void newObject() {
        due.sentence("`ReferenceRules()`: ANY and BOX; no PARAMETERS are told.");
        ReferenceRules x = new ReferenceRules();
        due.is("ANY and BOX", x.count(0), 2);
        for (int what = 1; what <= 6; what++) {
            due.is("count(" + what + ")", x.count(what), 0);
        }
        due.is("none are told", x.untell(), 0);
        due.is("a first one", x.tell(1), 1);
        due.is("no result", x.result(), 0);
        due.is("nothing is TRACED", x.traced(0), NONE);
        due.is("no thing", x.of(1, 0), BAD);
        due.is("no value", x.call(0), BAD);
        due.is("no reference", x.exact(0), BAD);
        due.has("no members", x, 0);
        due.is("nothing goes", x.clear(), 0);
    }

    private static void type() {
        due.sentence("A TYPE more, 2 to 9: which.");
        ReferenceRules x = new ReferenceRules();
        for (int t = 2; t <= 9; t++) {
            due.is("type " + t, x.type(t == 2 ? 0 : t - 1), t);
            due.is("under its PARENT", x.under(t, t == 2 ? 0 : t - 1), 1);
            due.is("there are so many", x.count(0), t + 1);
        }
    }

    private static void typeRefused() {
        due.sentence("BAD: the PARENT is no TYPE 0, 2 to 9; FULL.");
        ReferenceRules x = new ReferenceRules();
        int[] bad = {MIN, -1, 1, 10, 11, 12, 19, 20, 22, 30, 31, MAX};
        for (int parent : bad) {
            due.is("type(" + parent + ")", x.type(parent), BAD);
        }
        for (int t = 2; t <= 9; t++) {
            due.is("its own number", x.type(t), BAD);
            due.is("type(0)", x.type(0), t);
        }
        due.is("full", x.type(0), FULL);
        due.is("full, of 9", x.type(9), FULL);
        for (int parent : bad) {
            due.is("type(" + parent + ") when it is full", x.type(parent), BAD);
        }
        due.is("ten", x.count(0), 10);
    }

    private static void under() {
        due.sentence("Whether a type is UNDER another one: 1, 0. BAD.");
        ReferenceRules x = withTypes();
        int[] bad = {MIN, -1, 6, 9, 12, 19, 26, 29, 31, 32, MAX};
        for (int t : bad) {
            due.is("under(" + t + ", 0)", x.under(t, 0), BAD);
            due.is("under(0, " + t + ")", x.under(0, t), BAD);
            due.is("under(" + t + ", " + t + ")", x.under(t, t), BAD);
        }
        due.is("under(5, 0)", x.under(5, 0), 1);
        due.is("under(0, 5)", x.under(0, 5), 0);
        due.is("under(25, 20)", x.under(25, 20), 1);
        due.is("under(20, 25)", x.under(20, 25), 0);
    }

    private static void loose() {
        due.sentence("Whether it is LOOSE for it: 1, 0. BAD.");
        ReferenceRules x = withTypes();
        int[] bad = {MIN, -1, 6, 9, 12, 19, 26, 29, 31, 32, MAX};
        for (int t : bad) {
            due.is("loose(" + t + ", 10)", x.loose(t, 10), BAD);
            due.is("loose(10, " + t + ")", x.loose(10, t), BAD);
            due.is("loose(1, " + t + ")", x.loose(1, t), BAD);
            due.is("loose(" + t + ", " + t + ")", x.loose(t, t), BAD);
        }
        due.is("loose(10, 0)", x.loose(10, 0), 1);
        due.is("loose(0, 10)", x.loose(0, 10), 0);
        due.is("loose(10, 5)", x.loose(10, 5), 0);
    }

    private static void tell() {
        due.sentence("A type comes behind those told for PARAMETERS, ARGUMENTS: how many. BAD; FULL: 3.");
        ReferenceRules x = withTypes();
        int[] bad = {MIN, -1, 6, 9, 11, 12, 19, 26, 29, 31, MAX};
        for (int told = 1; told <= 3; told++) {
            for (int t : bad) {
                due.is("tell(" + t + ")", x.tell(t), BAD);
            }
            due.is("tell", x.tell(told + 1), told);
        }
        due.is("a fourth", x.tell(0), FULL);
        for (int t : bad) {
            due.is("tell(" + t + ") behind three", x.tell(t), BAD);
        }
        due.is("the three are there in order", x.member(2, 0, 11, 1), 0);
        due.is("in this order", x.meant(x.reference(0, 2, 0), Short.face(x, 11, 2, 3, 4)), 0);
        due.is("in no other", x.meant(0, Short.face(x, 11, 4, 3, 2)), -11);
        due.is("in no other", x.meant(0, Short.face(x, 11, 2, 2, 4)), -11);
    }

    private static void untell() {
        due.sentence("None are told: how many were.");
        ReferenceRules x = withTypes();
        for (int told = 0; told <= 3; told++) {
            for (int i = 0; i < told; i++) {
                x.tell(10);
            }
            due.is("how many were", x.untell(), told);
            due.is("none are", x.untell(), 0);
        }
        x.tell(10);
        x.untell();
        due.is("a face without ARGUMENTS", x.face(11), 0);
        due.is("it has none", x.meant(x.reference(3, 2, 0), 0), PLAIN);
    }

    private static void memberTakesWhatIsTold() {
        due.sentence("A MEMBER with the PARAMETERS that are told (none are then): its number.");
        ReferenceRules x = withTypes();
        for (int told = 0; told <= 3; told++) {
            for (int i = 0; i < told; i++) {
                x.tell(10);
            }
            due.is("with " + told, x.member(2, 0, 11, 0), told);
            due.is("none are then", x.untell(), 0);
        }
    }

    private static void memberBad() {
        due.sentence("BAD: TYPE, NAME, RESULT, marks 0 to 7; VARIED without a ROW as its last one; STATIC and ABSTRACT both; ABSTRACT of ANY;");
        ReferenceRules x = withTypes();
        int[][] bad = {{-1, 0, 11, 0}, {1, 0, 11, 0}, {6, 0, 11, 0}, {10, 0, 11, 0}, {20, 0, 11, 0}, {MIN, 0, 11, 0},
            {MAX, 0, 11, 0}, {2, -1, 11, 0}, {2, 7, 11, 0}, {2, MIN, 11, 0}, {2, MAX, 11, 0}, {2, 0, -1, 0}, {2, 0, 6, 0},
            {2, 0, 12, 0}, {2, 0, 19, 0}, {2, 0, 26, 0}, {2, 0, 31, 0}, {2, 0, MIN, 0}, {2, 0, MAX, 0}, {2, 0, 11, -1},
            {2, 0, 11, 8}, {2, 0, 11, MIN}, {2, 0, 11, MAX}, {2, 0, 11, 3}, {2, 0, 11, 7}, {0, 0, 11, 2}, {0, 0, 11, 6}};
        for (int[] b : bad) {
            x.tell(30);
            due.is("member(" + b[0] + ", " + b[1] + ", " + b[2] + ", " + b[3] + ")", x.member(b[0], b[1], b[2], b[3]), BAD);
            due.is("what was told stays", x.untell(), 1);
        }
        int[] varied = {4, 5, 6};
        for (int marks : varied) {
            due.is("VARIED without PARAMETERS", x.member(2, 0, 11, marks), BAD);
            due.is("VARIED behind a ROW", Short.member(x, 2, 0, 11, marks, 30, 1), BAD);
        }
        due.is("there are none", x.count(1), 0);
        due.is("ABSTRACT of 2", x.member(2, 0, 11, 2), 0);
        due.is("STATIC of ANY", x.member(0, 1, 11, 1), 1);
        due.is("VARIED of ANY", Short.member(x, 0, 2, 11, 4, 20), 2);
    }

    private static void memberOfMakersBad() {
        due.sentence("of a MAKER one of these, or another RESULT than its TYPE.");
        ReferenceRules x = withTypes();
        for (int marks = 0; marks <= 7; marks++) {
            boolean isGood = marks == 0 || marks == 4;
            due.is("a MAKER, marks " + marks, Short.member(x, 3, 6, 3, marks, 10, marks < 4 ? 10 : 30), isGood ? marks / 4 : BAD);
        }
        due.is("VARIED without a ROW", x.member(3, 6, 3, 4), BAD);
        int[] results = {0, 1, 2, 4, 5, 10, 11, 23, 30};
        for (int result : results) {
            due.is("a MAKER of 3, RESULT " + result, x.member(3, 6, result, 0), BAD);
        }
        due.is("of ANY, RESULT 3", x.member(0, 6, 3, 0), BAD);
        due.is("of ANY", x.member(0, 6, 0, 0), 2);
        due.is("of BOX", x.member(1, 6, 1, 0), BAD);
    }

    private static void memberState() {
        due.sentence("STATE: there are THINGS, VALUES;");
        ReferenceRules x = withTypes();
        int r = x.reference(3, 2, 0);
        int f = x.face(11);
        x.box(0);
        due.is("one BOX alone", x.member(2, 0, 11, 0), STATE);
        x.clear();
        x.thing(0);
        due.is("one THING alone", x.member(2, 0, 11, 0), STATE);
        x.clear();
        due.is("one VALUE", x.make(r, f, 0), 0);
        due.is("one VALUE alone", x.member(2, 0, 11, 0), STATE);
        x.call(0);
        due.is("both", x.member(2, 0, 11, 0), STATE);
        x.clear();
        due.is("neither, with FACES and REFERENCES", x.member(2, 0, 11, 0), 0);
    }

    private static void memberClashInItsType() {
        due.sentence("CLASH: its TYPE, or (but MAKERS) one that it is UNDER, or that is UNDER it, has one with this NAME and these PARAMETERS: its own TYPE any,");
        int[] marks = {0, 1, 2, 4, 5, 6};
        for (int first : marks) {
            for (int second : marks) {
                ReferenceRules x = withTypes();
                Short.member(x, 2, 0, 11, first, 30);
                due.is("marks " + first + ", " + second, Short.member(x, 2, 0, 11, second, 30), CLASH);
                due.is("another RESULT", Short.member(x, 2, 0, 10, second, 30), CLASH);
                due.is("another NAME", Short.member(x, 2, 1, 11, second, 30), 1);
                due.is("other PARAMETERS", Short.member(x, 2, 0, 11, second, 20), 2);
                due.is("one more", Short.member(x, 2, 0, 11, second, 30, 30), 3);
                due.is("beside it", Short.member(x, 5, 0, 10, second, 30), 4);
            }
        }
        ReferenceRules y = withTypes();
        due.is("a MAKER", Short.member(y, 3, 6, 3, 0, 30), 0);
        due.is("the same MAKER", Short.member(y, 3, 6, 3, 0, 30), CLASH);
        due.is("the same MAKER, VARIED", Short.member(y, 3, 6, 3, 4, 30), CLASH);
        due.is("the PARENT's", Short.member(y, 2, 6, 2, 4, 30), 1);
        due.is("one below", Short.member(y, 4, 6, 4, 0, 30), 2);
    }

    private static void memberClashWithAnother() {
        due.sentence("another one, if one of both is STATIC, or RESULT or VARIED are unlike;");
        int[] marks = {0, 1, 2, 4, 5, 6};
        int[][] lines = {{2, 3}, {3, 2}, {2, 4}, {4, 2}};
        for (int[] line : lines) {
            for (int first : marks) {
                for (int second : marks) {
                    ReferenceRules x = withTypes();
                    Short.member(x, line[0], 0, 11, first, 30);
                    boolean isStatic = first % 2 == 1 || second % 2 == 1;
                    boolean isUnlike = first / 4 != second / 4;
                    String what = line[0] + " and " + line[1] + ", marks " + first + ", " + second;
                    due.is(what + ", another RESULT", Short.member(x, line[1], 0, 10, second, 30), CLASH);
                    due.is(what, Short.member(x, line[1], 0, 11, second, 30), isStatic || isUnlike ? CLASH : 1);
                }
            }
        }
        ReferenceRules y = withTypes();
        Short.member(y, 0, 0, 11, 0);
        due.is("far above: another RESULT", y.member(4, 0, 10, 0), CLASH);
        due.is("far above: alike", y.member(4, 0, 11, 0), 1);
        due.is("between both", y.member(2, 0, 11, 1), CLASH);
        due.is("between both", y.member(2, 0, 11, 2), 2);
    }

    private static void memberFull() {
        due.sentence("RESULT or VARIED are unlike; FULL.");
        ReferenceRules x = Short.types(0);
        for (int i = 0; i < 39; i++) {
            Short.member(x, 2, i % 6, 11, 0, i / 6 < 3 ? i / 6 : 17 + i / 6);
        }
        due.is("39", x.count(1), 39);
        due.is("the 40th", Short.member(x, 2, 3, 11, 0, 10, 10), 39);
        x.tell(10);
        x.tell(2);
        due.is("the 41st", x.member(2, 3, 11, 0), FULL);
        due.is("what was told stays", x.untell(), 2);
        due.is("40", x.count(1), 40);
        due.is("a CLASH is told first", Short.member(x, 2, 3, 11, 0, 10, 10), CLASH);
    }

    private static void has() {
        due.sentence("The i-th MEMBER that a TYPE HAS, by numbers. BAD: no TYPE 0 to 9; NONE.");
        ReferenceRules x = withTypes();
        int[] none = {MIN, -1, 0, 1, 40, MAX};
        for (int i : none) {
            due.is("without members, i " + i, x.has(2, i), NONE);
        }
        Short.member(x, 3, 0, 11, 0);
        Short.member(x, 0, 1, 11, 0);
        Short.member(x, 3, 2, 11, 0);
        Short.member(x, 2, 3, 11, 0);
        due.has("by numbers, not by TYPES", x, 3, 0, 1, 2, 3);
        due.has("those above", x, 2, 1, 3);
        due.is("i -1", x.has(3, -1), NONE);
        due.is("i MIN", x.has(3, MIN), NONE);
        due.is("i MAX", x.has(3, MAX), NONE);
        int[] bad = {MIN, -1, 6, 9, 10, 11, 20, 22, 30, MAX};
        for (int t : bad) {
            due.is("has(" + t + ", 0)", x.has(t, 0), BAD);
        }
    }

    private static void open() {
        due.sentence("Whether a TYPE is OPEN: 1, 0. BAD.");
        ReferenceRules x = withTypes();
        Short.member(x, 3, 0, 11, 2);
        int[] open = {0, 0, 0, 1, 1, 0};
        for (int t = 0; t <= 5; t++) {
            due.is("open(" + t + ")", x.open(t), open[t]);
        }
        int[] bad = {MIN, -1, 6, 9, 10, 11, 20, 23, 30, MAX};
        for (int t : bad) {
            due.is("open(" + t + ")", x.open(t), BAD);
        }
    }

    private static void face() {
        due.sentence("A FACE with the ARGUMENTS that are told (none are then): its number. BAD: RESULT; FULL.");
        ReferenceRules x = withTypes();
        int[] bad = {MIN, -1, 6, 9, 12, 19, 26, 29, 31, MAX};
        x.tell(10);
        for (int result : bad) {
            due.is("face(" + result + ")", x.face(result), BAD);
        }
        due.is("the first, with what was told", x.face(11), 0);
        due.is("one ARGUMENT", x.meant(x.reference(4, 2, 0), 0), PLAIN);
        due.is("none are told then", x.untell(), 0);
        for (int i = 1; i <= 9; i++) {
            due.is("face " + i, x.face(11), i);
        }
        x.tell(10);
        x.tell(10);
        due.is("an 11th", x.face(11), FULL);
        due.is("what was told stays", x.untell(), 2);
        for (int result : bad) {
            due.is("face(" + result + ") when it is full", x.face(result), BAD);
        }
    }

    private static void reference() {
        due.sentence("BAD: FORM, TYPE (as told: FORMS 0, 1: 0 to 9; 2: 1 to 9), NAME 0 to 5 (of FORMS 3, 4 any); FULL.");
        ReferenceRules x = Short.lineOfTypes();
        int[] forms = {MIN, -1, 5, 6, MAX};
        for (int form : forms) {
            due.is("FORM " + form, x.reference(form, 2, 0), BAD);
        }
        int made = 0;
        int[] types = {MIN, -1, 0, 1, 2, 9, 10, 11, 20, 30, MAX};
        for (int form = 0; form <= 4; form++) {
            for (int t : types) {
                boolean isGood = t >= 0 && t <= 9 && !(form == 2 && t == 0) && !(form == 3 && t == 1) || form == 4 && t == 10;
                due.is("FORM " + form + " of " + t, x.reference(form, t, 0), isGood ? made : BAD);
                made += isGood ? 1 : 0;
            }
        }
        int[] names = {MIN, -1, 6, 7, MAX};
        for (int name : names) {
            for (int form = 0; form <= 2; form++) {
                due.is("FORM " + form + ", NAME " + name, x.reference(form, 2, name), BAD);
            }
            due.is("FORM 3, NAME " + name, x.reference(3, 2, name), made);
            made++;
        }
        due.is("FORM 0, NAME 5", x.reference(0, 2, 5), made);
        due.is("FORM 4, NAME MIN", x.reference(4, 2, MIN), made + 1);
        for (int i = made + 2; i < 30; i++) {
            due.is("reference " + i, x.reference(4, 10, MAX), i);
        }
        due.is("a 31st", x.reference(4, 10, 0), FULL);
        due.is("a BAD one when it is full", x.reference(4, 11, 0), BAD);
    }

    private static void meant() {
        due.sentence("What a REFERENCE MEANS for a FACE: a MEMBER, PLAIN; -10 less the FAULT. BAD.");
        ReferenceRules x = withTypes();
        due.is("without any", x.meant(0, 0), BAD);
        int r = x.reference(3, 2, 0);
        due.is("without a FACE", x.meant(r, 0), BAD);
        int f = Short.face(x, 11);
        int[] bad = {MIN, -1, 1, 10, 30, MAX};
        for (int b : bad) {
            due.is("meant(" + b + ", 0)", x.meant(b, f), BAD);
            due.is("meant(0, " + b + ")", x.meant(r, b), BAD);
        }
        due.is("PLAIN", x.meant(r, f), PLAIN);
        due.is("a FAULT", x.meant(r, Short.face(x, 11, 10)), -11);
        Short.member(x, 2, 6, 2, 0);
        due.is("a MEMBER", x.meant(r, f), 0);
    }

    private static void searchWhich() {
        due.sentence("What its SEARCH (which = 1; of FORM 0 the second one, too: 2) finds: a MEMBER, NONE, TWO. BAD: also another which, FORM 4;");
        ReferenceRules x = withTypes();
        Short.member(x, 2, 6, 2, 0);
        int f = Short.face(x, 11);
        int[] bad = {MIN, -1, 0, 3, MAX};
        for (int form = 0; form <= 4; form++) {
            int r = x.reference(form, 2, 0);
            for (int which : bad) {
                due.is("FORM " + form + ", which " + which, x.search(r, f, which), BAD);
                due.is("FORM " + form + ", phase, which " + which, x.phase(r, f, which), BAD);
            }
            due.is("FORM " + form + ", which 1", x.search(r, f, 1), form == 4 ? BAD : form == 3 ? 0 : NONE);
            due.is("FORM " + form + ", which 2", x.search(r, f, 2), form == 0 ? NONE : BAD);
        }
        int[] wrong = {MIN, -1, 5, MAX};
        for (int w : wrong) {
            due.is("no REFERENCE " + w, x.search(w, f, 1), BAD);
            due.is("no FACE " + w, x.search(0, w, 1), BAD);
        }
        Short.member(x, 2, 0, 11, 0, 2, 0);
        Short.member(x, 2, 0, 11, 0, 0, 2);
        due.is("TWO", x.search(0, Short.face(x, 11, 2, 2), 1), TWO);
        due.is("TWO by the second", x.search(0, Short.face(x, 11, 2, 2, 2), 2), TWO);
    }

    private static void searchState() {
        due.sentence("STATE: FORM 3 of an OPEN TYPE, or without MAKERS.");
        ReferenceRules x = withTypes();
        int f = Short.face(x, 11);
        int r = x.reference(3, 3, 0);
        due.is("without MAKERS", x.search(r, f, 1), STATE);
        due.is("without MAKERS, which 2", x.search(r, f, 2), BAD);
        Short.member(x, 3, 6, 3, 0);
        due.is("with one", x.search(r, f, 1), 0);
        Short.member(x, 2, 0, 11, 2);
        due.is("OPEN, with one", x.search(r, f, 1), STATE);
        due.is("OPEN, which 0", x.search(r, f, 0), BAD);
        due.is("OPEN, no FACE", x.search(r, 1, 1), BAD);
        due.is("FORM 1 of an OPEN TYPE", x.search(x.reference(1, 3, 0), f, 1), 1);
    }

    private static void phase() {
        due.sentence("In which PHASE that was found: 1 to 3; 0: the FIT is empty. As search().");
        ReferenceRules x = withTypes();
        Short.member(x, 2, 0, 11, 4, 30);
        Short.member(x, 2, 0, 11, 0, 0);
        int r = x.reference(0, 2, 0);
        int[] faces = {Short.face(x, 11, 1), Short.face(x, 11, 10), Short.face(x, 11, 10, 10), Short.face(x, 11, 10, 2)};
        int[] phases = {1, 2, 3, 0};
        for (int i = 0; i < 4; i++) {
            due.is("phase " + phases[i], x.phase(r, faces[i], 1), phases[i]);
            due.is("the second's", x.phase(r, faces[i], 2), 0);
        }
        due.is("the second's", x.phase(r, Short.face(x, 11, 2, 10), 2), 2);
        Short.member(x, 2, 0, 11, 4, 10, 30);
        due.is("of TWO, too", x.phase(r, faces[2], 1), 3);
        int maker = x.reference(3, 2, 0);
        due.is("without MAKERS", x.phase(maker, faces[0], 1), STATE);
        due.is("FORM 4", x.phase(x.reference(4, 2, 0), faces[0], 1), BAD);
        due.is("another which", x.phase(maker, faces[0], 2), BAD);
        due.is("no REFERENCE", x.phase(3, faces[0], 1), BAD);
        due.is("no FACE", x.phase(r, 5, 1), BAD);
        Short.member(x, 2, 6, 2, 0, 0);
        due.is("with a MAKER", x.phase(maker, faces[1], 1), 2);
        Short.member(x, 2, 1, 11, 2);
        due.is("OPEN", x.phase(maker, faces[1], 1), STATE);
    }

    private static void exact() {
        due.sentence("Whether it is EXACT: 1, 0. BAD.");
        ReferenceRules x = withTypes();
        due.is("without any", x.exact(0), BAD);
        due.is("one", x.reference(4, 2, 0), 0);
        due.is("another", x.reference(0, 2, 0), 1);
        due.is("EXACT", x.exact(0), 1);
        due.is("not EXACT", x.exact(1), 0);
        int[] bad = {MIN, -1, 2, 29, 30, MAX};
        for (int r : bad) {
            due.is("exact(" + r + ")", x.exact(r), BAD);
        }
    }

    private static void thing() {
        due.sentence("A THING of a TYPE 0, 2 to 9: which. BAD; STATE: it is OPEN; FULL.");
        ReferenceRules x = Short.lineOfTypes();
        Short.member(x, 4, 0, 11, 2);
        Short.member(x, 7, 0, 11, 0);
        int[] bad = {MIN, -1, 1, 10, 11, 12, 20, 22, 30, 31, MAX};
        for (int t : bad) {
            due.is("thing(" + t + ")", x.thing(t), BAD);
        }
        int[] types = {0, 2, 3, 7, 8, 9};
        for (int i = 0; i < types.length; i++) {
            due.is("thing(" + types[i] + ")", x.thing(types[i]), i + 1);
            due.is("its type", x.of(i + 1, 0), types[i]);
        }
        for (int t = 4; t <= 6; t++) {
            due.is("OPEN " + t, x.thing(t), STATE);
        }
        due.is("no THING came", x.count(4), 6);
        Short.fillThings(x, 59);
        due.is("the 60th", x.thing(9), 60);
        due.is("the 61st", x.thing(9), FULL);
        due.is("OPEN when it is full", x.thing(4), STATE);
        due.is("BAD when it is full", x.thing(1), BAD);
    }

    private static void box() {
        due.sentence("A BOX: which. FULL.");
        ReferenceRules x = withTypes();
        int[] ints = {MIN, -1, 0, 1, MAX};
        for (int i = 0; i < ints.length; i++) {
            due.is("box(" + ints[i] + ")", x.box(ints[i]), i + 1);
            due.is("its int", x.of(i + 1, 1), ints[i]);
        }
        for (int i = ints.length + 1; i <= 60; i++) {
            due.is("box " + i, x.box(i), i);
        }
        due.is("the 61st", x.box(0), FULL);
        due.is("the 60th is as it was", x.of(60, 1), 60);
        due.is("sixty went", x.clear(), 60);
        due.is("the first again", x.box(-7), 1);
    }

    private static void of() {
        due.sentence("Of a THING: 0 its type, 1 its int (BOX), how many places (ROW), else 0. BAD.");
        ReferenceRules x = withTypes();
        due.is("without any", x.of(1, 0), BAD);
        int rows = x.make(x.reference(4, 10, 0), Short.face(x, 0, 10), 0);
        x.thing(4);
        x.box(MIN);
        Short.call(x, rows, 20);
        Short.call(x, rows, 0);
        int[][] amounts = {{4, 0}, {1, MIN}, {30, 20}, {30, 0}};
        for (int i = 0; i < amounts.length; i++) {
            due.is("the type of " + (i + 1), x.of(i + 1, 0), amounts[i][0]);
            due.is("the amount of " + (i + 1), x.of(i + 1, 1), amounts[i][1]);
            due.is("what -1", x.of(i + 1, -1), BAD);
            due.is("what 2", x.of(i + 1, 2), BAD);
            due.is("what MAX", x.of(i + 1, MAX), BAD);
        }
        int[] bad = {MIN, -1, 0, 5, 60, 61, MAX};
        for (int thing : bad) {
            due.is("of(" + thing + ", 0)", x.of(thing, 0), BAD);
            due.is("of(" + thing + ", 1)", x.of(thing, 1), BAD);
        }
        x.clear();
        due.is("one that went", x.of(1, 0), BAD);
    }

    private static void place() {
        due.sentence("Place i of a ROW: an int, or a THING, 0. BAD: no ROW, no such place.");
        ReferenceRules x = withTypes();
        Short.member(x, 2, 0, 11, 5, 30);
        Short.member(x, 2, 1, 11, 5, 20);
        int ints = Short.staticValue(x, 2, 0, 11, 10, 10);
        int any = Short.staticValue(x, 2, 1, 11, 2, 10);
        int rows = x.make(x.reference(4, 2, 0), Short.face(x, 0, 10), 0);
        Short.call(x, ints, MIN, 7);
        Short.call(x, any, 0, 8);
        due.is("an int", x.place(1, 0), MIN);
        due.is("an int", x.place(1, 1), 7);
        due.is("0", x.place(2, 0), 0);
        due.is("a THING", x.place(2, 1), 3);
        int[] sizes = {0, 1, 20};
        for (int size : sizes) {
            int row = Short.gives(x, rows, size);
            int[] around = {MIN, -1, 0, size - 1, size, 20, MAX};
            for (int i : around) {
                due.is("place " + i + " of " + size, x.place(row, i), i >= 0 && i < size ? 0 : BAD);
            }
        }
        int boxed = x.box(20);
        int two = x.thing(2);
        int[] noRow = {MIN, -1, 0, 3, boxed, two, two + 1, 60, 61, MAX};
        for (int row : noRow) {
            due.is("place(" + row + ", 0)", x.place(row, 0), BAD);
        }
        x.clear();
        due.is("a ROW that went", x.place(1, 0), BAD);
        due.is("a ROW where another one stood", Short.gives(x, x.make(2, 2, 0), 3), 1);
        for (int i = 0; i < 3; i++) {
            due.is("its place " + i, x.place(1, i), 0);
        }
    }

    /** References 0 to 4 of the forms 0 to 4, all of which mean something for face 0; face 1 suits none. */
    private static ReferenceRules withReferences() {
        ReferenceRules x = withTypes();
        Short.member(x, 2, 0, 11, 0, 10);
        Short.member(x, 3, 1, 11, 1, 10);
        Short.member(x, 3, 6, 3, 0, 10);
        Short.face(x, 11, 10);
        Short.face(x, 30, 5);
        x.reference(0, 3, 1);
        x.reference(1, 3, 0);
        x.reference(2, 3, 0);
        x.reference(3, 3, 0);
        x.reference(4, 3, 0);
        return x;
    }

    private static void makeBad() {
        due.sentence("BAD: REFERENCE, FACE, the receiver (of FORMS 1, 2 no THING whose type is UNDER the TYPE, nor NULL; of others not 0);");
        ReferenceRules x = withReferences();
        int[] bad = {MIN, -1, 5, 30, MAX};
        for (int b : bad) {
            due.is("make(" + b + ", 0, 0)", x.make(b, 0, 0), BAD);
            due.is("make(0, " + b + ", 0)", x.make(0, b, 0), BAD);
        }
        due.is("no FACE 2", x.make(0, 2, 0), BAD);
        int[] types = {0, 2, 3, 4, 5};
        for (int t : types) {
            x.thing(t);
        }
        x.box(3);
        int[] receivers = {MIN, -1, 1, 2, 3, 4, 5, 6, 7, 60, 61, MAX};
        int made = 0;
        for (int form = 0; form <= 4; form++) {
            for (int receiver : receivers) {
                boolean isGood = (form == 1 || form == 2) && (receiver == 3 || receiver == 4);
                due.is("FORM " + form + ", receiver " + receiver, x.make(form, 0, receiver), isGood ? made : BAD);
                made += isGood ? 1 : 0;
            }
        }
        due.is("values", x.count(5), made);
        due.is("no failures", x.count(6), 0);
    }

    private static void makeState() {
        due.sentence("STATE: nothing is MEANT;");
        ReferenceRules x = withReferences();
        int three = x.thing(3);
        int five = x.thing(5);
        for (int form = 0; form <= 4; form++) {
            boolean isOfThing = form == 1 || form == 2;
            due.is("FORM " + form, x.make(form, 1, isOfThing ? three : 0), STATE);
            due.is("FORM " + form + ", BAD is told first", x.make(form, 1, five), BAD);
            due.is("FORM " + form + ", no receiver", x.make(form, 1, 0), STATE);
        }
        due.is("no values", x.count(5), 0);
        due.is("no failures", x.count(6), 0);
    }

    private static void makeNull() {
        due.sentence("NULL: failure, of FORM 1 (FORM 2: BAD);");
        ReferenceRules x = withReferences();
        due.is("FORM 1", x.make(1, 0, 0), NULL);
        due.is("a failure", x.count(6), 1);
        due.is("FORM 2", x.make(2, 0, 0), BAD);
        due.is("no failure", x.count(6), 1);
        due.is("FORM 1", x.make(1, 0, 0), NULL);
        due.is("a failure", x.count(6), 2);
        due.is("no values", x.count(5), 0);
        for (int form : new int[] {0, 3, 4}) {
            x.make(form, 0, 0);
        }
        due.is("of others 0 is right", x.count(5), 3);
    }

    private static void makeFull() {
        due.sentence("(FORM 2: BAD); FULL.");
        ReferenceRules x = withReferences();
        int three = x.thing(3);
        for (int i = 0; i < 30; i++) {
            int form = i % 5;
            due.is("value " + i, x.make(form, 0, form == 1 || form == 2 ? three : 0), i);
        }
        for (int form = 0; form <= 4; form++) {
            due.is("FORM " + form + ", a 31st", x.make(form, 0, form == 1 || form == 2 ? three : 0), FULL);
        }
        due.is("NULL is told first", x.make(1, 0, 0), NULL);
        due.is("BAD is told first", x.make(2, 0, 0), BAD);
        due.is("STATE is told first", x.make(3, 1, 0), STATE);
        due.is("30", x.count(5), 30);
        due.is("one failure", x.count(6), 1);
    }

    private static void arg() {
        due.sentence("ARG i (0 to 2) is v from now on (0 at first): 1. BAD.");
        ReferenceRules x = withTypes();
        Short.member(x, 2, 0, 10, 1, 10, 10, 10);
        int v = Short.staticValue(x, 2, 0, 10, 10, 10, 10);
        due.is("0 at first", Short.gives(x, v), 0);
        int[] bad = {MIN, -1, 3, 4, MAX};
        for (int i : bad) {
            due.is("arg(" + i + ", 5)", x.arg(i, 5), BAD);
        }
        due.is("still 0", Short.gives(x, v), 0);
        int[] ints = {MIN, -1, 0, 1, 61, MAX};
        for (int i = 0; i <= 2; i++) {
            for (int set : ints) {
                due.is("arg(" + i + ", " + set + ")", x.arg(i, set), 1);
                due.is("taken", Short.gives(x, v), set);
                due.is("from now on", Short.gives(x, v), set);
            }
            x.arg(i, 0);
        }
    }

    private static void callTakesTheFirstArgs() {
        due.sentence("A VALUE is CALLED with the first ARGS, as many as its FACE has ARGUMENTS: 1.");
        int[][] lists = {{}, {10}, {10, 10}, {10, 10, 10}};
        int[] sums = {0, 1, 21, 321};
        ReferenceRules x = withTypes();
        Short.member(x, 2, 0, 10, 5, 30);
        for (int i = 0; i < lists.length; i++) {
            int v = Short.staticValue(x, 2, 0, 10, lists[i]);
            due.is(i + " ARGS are taken", Short.gives(x, v, 1, 20, 300), sums[i]);
        }
        ReferenceRules y = withTypes();
        Short.member(y, 2, 0, 11, 1, 2);
        int one = Short.staticValue(y, 2, 0, 11, 2);
        due.is("those behind are not looked at", Short.call(y, one, 0, -1, 61), 1);
        due.is("the first is", Short.call(y, one, -1, 0, 0), BAD);
    }

    private static void callBad() {
        due.sentence("BAD: no VALUE, or an ARG is no THING (nor NULL) whose type is UNDER the ARGUMENT (of INT any);");
        ReferenceRules x = withTypes();
        Short.member(x, 2, 0, 11, 1, 3, 10, 21);
        due.is("without any", x.call(0), BAD);
        int v = Short.staticValue(x, 2, 0, 11, 3, 10, 21);
        int[] noValue = {MIN, -1, 1, 29, 30, MAX};
        for (int value : noValue) {
            due.is("call(" + value + ")", x.call(value), BAD);
        }
        int[] types = {0, 2, 3, 4, 5};
        for (int t : types) {
            x.thing(t);
        }
        int boxes = x.make(x.reference(4, 1, 0), Short.face(x, 0, 10), 0);
        int row = Short.gives(x, boxes, 2);
        int[] all = {MIN, -1, 0, 1, 2, 3, 4, 5, row, row + 1, 60, 61, MAX};
        for (int arg : all) {
            boolean isFirst = arg == 0 || arg == 3 || arg == 4;
            boolean isLast = arg == 0 || arg == row;
            due.is("ARG 0 is " + arg, Short.call(x, v, arg, 0, 0), isFirst ? 1 : BAD);
            due.is("ARG 1 is " + arg, Short.call(x, v, 0, arg, 0), 1);
            due.is("ARG 2 is " + arg, Short.call(x, v, 0, 0, arg), isLast ? 1 : BAD);
        }
        due.is("no failures", x.count(6), 0);
    }

    private static void callStops() {
        due.sentence("NULL, SIZE; FULL.");
        ReferenceRules x = withTypes();
        Short.member(x, 2, 0, 11, 1, 10, 0);
        int v = Short.staticValue(x, 2, 0, 11, 1, 10);
        int rows = x.make(x.reference(4, 2, 0), Short.face(x, 11, 10), 0);
        due.is("NULL", Short.call(x, v, 0, 1), NULL);
        due.is("SIZE", Short.call(x, rows, -1), SIZE);
        due.is("FULL", Short.call(x, rows, 21), FULL);
        due.is("two failures", x.count(6), 2);
        due.is("BAD is told first", Short.call(x, v, 1, 1), BAD);
        Short.fillThings(x, 60);
        due.is("FULL", Short.call(x, v, 1, 1), FULL);
        due.is("two failures", x.count(6), 2);
    }

    private static void result() {
        due.sentence("What the latest call() that was 1 gave: an int, a THING; 0 before.");
        ReferenceRules x = withTypes();
        Short.member(x, 2, 0, 10, 1, 10);
        int toInt = Short.staticValue(x, 2, 0, 10, 10);
        int toBox = Short.staticValue(x, 2, 0, 1, 10);
        int toVoid = Short.staticValue(x, 2, 0, 11, 10);
        int unbox = Short.staticValue(x, 2, 0, 10, 1);
        int rows = x.make(x.reference(4, 2, 0), Short.face(x, 0, 10), 0);
        due.is("0 before", x.result(), 0);
        due.is("SIZE", Short.call(x, rows, -1), SIZE);
        due.is("0 before one that was 1", x.result(), 0);
        due.is("an int", Short.gives(x, toInt, MIN), MIN);
        due.is("a THING", Short.gives(x, toBox, 5), 1);
        due.is("NULL", Short.call(x, unbox, 0), NULL);
        due.is("SIZE", Short.call(x, rows, -1), SIZE);
        due.is("FULL", Short.call(x, rows, 21), FULL);
        due.is("BAD", x.call(99), BAD);
        due.is("BAD", Short.call(x, unbox, 99), BAD);
        due.is("the latest that was 1", x.result(), 1);
        due.is("VOID", Short.gives(x, toVoid, 5), 0);
    }

    private static void traced() {
        due.sentence("The i-th of the MEMBERS that were TRACED (the latest 50 are kept; from 0 on). NONE.");
        ReferenceRules x = withTypes();
        int[] values = new int[3];
        for (int i = 0; i < 3; i++) {
            Short.member(x, 2, i, 11, 1);
        }
        x.face(11);
        for (int i = 0; i < 3; i++) {
            values[i] = x.make(x.reference(0, 2, i), 0, 0);
        }
        int[] none = {MIN, -1, 0, 49, 50, MAX};
        for (int i : none) {
            due.is("none yet, traced(" + i + ")", x.traced(i), NONE);
        }
        for (int i = 0; i < 49; i++) {
            x.call(values[i % 3]);
        }
        due.is("49: the last", x.traced(48), 0);
        due.is("49: no 50th", x.traced(49), NONE);
        x.call(values[1]);
        due.is("50: the first", x.traced(0), 0);
        due.is("50: the last", x.traced(49), 1);
        due.is("50: no 51st", x.traced(50), NONE);
        x.call(values[2]);
        due.is("51: the second is the first", x.traced(0), 1);
        due.is("51: the last", x.traced(49), 2);
        due.is("51: no 51st", x.traced(50), NONE);
        for (int i = 0; i < 50; i++) {
            due.is("51: traced(" + i + ")", x.traced(i), (i + 1) % 3);
        }
        due.is("traced(-1)", x.traced(-1), NONE);
        due.is("traced(MAX)", x.traced(MAX), NONE);
        x.clear();
        due.is("none behind clear()", x.traced(0), NONE);
    }

    private static void count() {
        due.sentence("0 TYPES (ANY, BOX, too), 1 MEMBERS, 2 FACES, 3 REFERENCES, 4 THINGS, 5 VALUES, 6 failures in all. BAD.");
        ReferenceRules x = withReferences();
        x.make(0, 0, 0);
        x.make(1, 0, 0);
        x.thing(3);
        x.thing(4);
        x.box(0);
        x.make(4, 0, 0);
        due.is("SIZE", Short.call(x, 1, -1), SIZE);
        int[] counts = {6, 3, 2, 5, 3, 2, 2};
        for (int what = 0; what <= 6; what++) {
            due.is("count(" + what + ")", x.count(what), counts[what]);
        }
        int[] bad = {MIN, -1, 7, 8, MAX};
        for (int what : bad) {
            due.is("count(" + what + ")", x.count(what), BAD);
        }
        x.clear();
        due.is("failures in all, behind clear()", x.count(6), 2);
    }

    private static void clear() {
        due.sentence("All THINGS and VALUES go, and what is TRACED; ARGS and result() are 0: how many THINGS there were.");
        ReferenceRules x = withTypes();
        due.is("of none", x.clear(), 0);
        Short.member(x, 2, 0, 10, 1, 10, 10, 10);
        int v = Short.staticValue(x, 2, 0, 10, 10, 10, 10);
        due.is("a result", Short.gives(x, v, 1, 2, 3), 6);
        due.is("without THINGS", x.clear(), 0);
        due.is("no VALUE", x.call(v), BAD);
        due.is("no VALUES", x.count(5), 0);
        due.is("no result", x.result(), 0);
        due.is("nothing TRACED", x.traced(0), NONE);
        due.is("the VALUE again", x.make(0, 0, 0), 0);
        due.is("ARGS are 0", Short.gives(x, 0), 0);
        due.is("one is TRACED", x.traced(0), 0);
        due.is("and no more", x.traced(1), NONE);
        Short.fillThings(x, 60);
        due.is("all sixty", x.clear(), 60);
        due.is("no THINGS", x.count(4), 0);
        due.is("none of them", x.of(60, 0), BAD);
        due.is("again", x.clear(), 0);
        int[] stay = {6, 1, 1, 1};
        for (int what = 0; what < stay.length; what++) {
            due.is("count(" + what + ") stays", x.count(what), stay[what]);
        }
    }
}
