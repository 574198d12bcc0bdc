/** The boundary cases that part 2 of the Terms (A SEARCH) names, a test for each of its sentences. */
public final class SearchBoundariesTest {
    private static final int NONE = ReferenceRules.NONE, TWO = ReferenceRules.TWO;
    private static final Due due = new Due();

    public static void main(String[] args) {
        overThoseOfTheNameThatAreHad();
        phaseOneCountsArguments();
        phaseOneAsksForUnder();
        phaseTwoWithoutAny();
        phaseTwoAsksForLoose();
        phaseThreeWithoutAny();
        phaseThreeCountsParameters();
        phaseThreePlaces();
        specialByEachParameter();
        specialAlone();
        specialByArgumentsAndParameters();
        justOneIsSpecial();
        noneIfTheFitIsEmpty();
        elseTwo();
        due.end();
    }

    /** 2 below ANY, 3 below 2, 4 below 3, 5 below ANY. */
    private static ReferenceRules withTypes() {
        return Short.types(0, 2, 3, 0);
    }

    /** What value::name of type 2 finds for these arguments, and in which phase. */
    private static void finds(String what, ReferenceRules x, int name, int number, int phase, int... arguments) {
        int r = x.reference(1, 2, name);
        int f = Short.face(x, 11, arguments);
        due.is(what + ": search", x.search(r, f, 1), number);
        due.is(what + ": phase", x.phase(r, f, 1), phase);
    }

    private static void overThoseOfTheNameThatAreHad() {
        due.sentence("A SEARCH of a NAME in a TYPE for some ARGUMENTS goes over the MEMBERS of this NAME that the TYPE HAS.");
        ReferenceRules x = withTypes();
        finds("there are none at all", x, 0, NONE, 0);
        Short.member(x, 3, 0, 11, 0);
        finds("one below", x, 0, NONE, 0);
        Short.member(x, 5, 0, 11, 0);
        finds("one beside", x, 0, NONE, 0);
        Short.member(x, 2, 1, 11, 0);
        finds("one of the next NAME", x, 0, NONE, 0);
        Short.member(x, 2, 6, 2, 0);
        finds("a MAKER", x, 5, NONE, 0);
        int ofAny = Short.member(x, 0, 0, 11, 0);
        finds("ANY's", x, 0, ofAny, 1);
        int own = Short.member(x, 2, 0, 11, 0);
        finds("its own hides ANY's", x, 0, own, 1);
    }

    private static void phaseOneCountsArguments() {
        due.sentence("PHASE 1: those with as many PARAMETERS as there are ARGUMENTS,");
        ReferenceRules x = withTypes();
        int[][] lists = {{}, {10}, {10, 10}, {10, 10, 10}};
        for (int i = 0; i < 4; i++) {
            Short.member(x, 2, i, 11, 0, lists[i]);
            Short.member(x, 2, 5, 11, 0, lists[i]);
        }
        int[] faces = new int[4];
        for (int i = 0; i < 4; i++) {
            faces[i] = Short.face(x, 11, lists[i]);
        }
        for (int name = 0; name < 4; name++) {
            int r = x.reference(1, 2, name);
            for (int i = 0; i < 4; i++) {
                due.is(name + " parameters, " + i + " arguments", x.search(r, faces[i], 1), i == name ? 2 * name : NONE);
                due.is(name + " parameters, " + i + " arguments", x.phase(r, faces[i], 1), i == name ? 1 : 0);
            }
        }
        int all = x.reference(1, 2, 5);
        for (int i = 0; i < 4; i++) {
            due.is("all lengths at once, " + i, x.search(all, faces[i], 1), 2 * i + 1);
        }
    }

    private static void phaseOneAsksForUnder() {
        due.sentence("each ARGUMENT being UNDER its PARAMETER.");
        ReferenceRules x = withTypes();
        int m = Short.member(x, 2, 0, 11, 0, 3, 23, 10);
        finds("the same", x, 0, m, 1, 3, 23, 10);
        finds("below", x, 0, m, 1, 4, 24, 10);
        finds("the first is above", x, 0, NONE, 0, 2, 23, 10);
        finds("the second is above", x, 0, NONE, 0, 3, 22, 10);
        finds("the third is not UNDER, but LOOSE", x, 0, m, 2, 3, 23, 1);
        finds("the third is ANY", x, 0, NONE, 0, 3, 23, 0);
    }

    private static void phaseTwoWithoutAny() {
        due.sentence("Without any, PHASE 2: likewise,");
        ReferenceRules x = withTypes();
        int box = Short.member(x, 2, 0, 11, 0, 1);
        finds("BOX alone, for an INT", x, 0, box, 2, 10);
        int same = Short.member(x, 2, 0, 11, 0, 10);
        finds("PHASE 1 has one: no PHASE 2", x, 0, same, 1, 10);
        finds("PHASE 1 has one: no PHASE 2", x, 0, box, 1, 1);
        Short.member(x, 2, 1, 11, 0, 1, 0);
        Short.member(x, 2, 1, 11, 0, 0, 1);
        finds("PHASE 1 has two: no PHASE 2", x, 1, TWO, 1, 1, 1);
        finds("as many PARAMETERS, too", x, 0, NONE, 0, 10, 10);
        finds("as many PARAMETERS, too", x, 0, NONE, 0);
    }

    private static void phaseTwoAsksForLoose() {
        due.sentence("each LOOSE for it.");
        ReferenceRules x = withTypes();
        int m = Short.member(x, 2, 0, 11, 0, 10, 0, 1);
        finds("all three are but LOOSE", x, 0, m, 2, 1, 10, 10);
        finds("the first is not", x, 0, NONE, 0, 0, 10, 10);
        finds("the second is not LOOSE, but UNDER", x, 0, m, 2, 1, 30, 10);
        finds("the third is not", x, 0, NONE, 0, 1, 10, 0);
        int ints = Short.member(x, 2, 1, 11, 0, 30);
        finds("a ROW of BOXES for one of INTS", x, 1, NONE, 0, 21);
        finds("an INT for a ROW of INTS", x, 1, NONE, 0, 10);
        finds("a ROW of INTS", x, 1, ints, 1, 30);
    }

    private static void phaseThreeWithoutAny() {
        due.sentence("Without any, PHASE 3: VARIED ones");
        ReferenceRules x = withTypes();
        int varied = Short.member(x, 2, 0, 11, 4, 30);
        finds("alone", x, 0, varied, 3, 10);
        int loose = Short.member(x, 2, 0, 11, 0, 0);
        finds("PHASE 2 has one: no PHASE 3", x, 0, loose, 2, 10);
        finds("PHASE 1 has one: no PHASE 3", x, 0, loose, 1, 1);
        int none = Short.member(x, 2, 0, 11, 0);
        finds("PHASE 1 has one for no ARGUMENTS", x, 0, none, 1);
        Short.member(x, 2, 1, 11, 0, 30);
        finds("one that is not VARIED", x, 1, NONE, 0, 10);
        finds("one that is not VARIED, for none", x, 1, NONE, 0);
        finds("a VARIED one for its ROW, in PHASE 1", x, 0, varied, 1, 30);
        int behind = Short.member(x, 2, 2, 11, 4, 10, 30);
        finds("a VARIED one for its ROW, in PHASE 2", x, 2, behind, 2, 1, 30);
    }

    private static void phaseThreeCountsParameters() {
        due.sentence("with one PARAMETER more than ARGUMENTS, or as many, or less:");
        int[][] parameters = {{30}, {10, 30}, {10, 10, 30}};
        int[][] arguments = {{}, {10}, {10, 10}, {10, 10, 10}};
        for (int[] has : parameters) {
            for (int[] gets : arguments) {
                ReferenceRules x = withTypes();
                Short.member(x, 2, 0, 11, 4, has);
                boolean isFound = has.length <= gets.length + 1;
                finds(has.length + " parameters, " + gets.length + " arguments", x, 0, isFound ? 0 : NONE, isFound ? 3 : 0, gets);
            }
        }
    }

    private static void phaseThreePlaces() {
        due.sentence("each ARGUMENT is LOOSE for its PLACE, the PLACES being the PARAMETERS but the last one, then its PART again and again.");
        ReferenceRules x = withTypes();
        int m = Short.member(x, 2, 0, 11, 4, 2, 30);
        finds("no place of the PART", x, 0, m, 3, 3);
        finds("one", x, 0, m, 3, 3, 1);
        finds("two", x, 0, m, 3, 3, 1, 10);
        finds("the one ahead is wrong", x, 0, NONE, 0, 5, 1, 10);
        finds("the first PART is wrong", x, 0, NONE, 0, 3, 2, 10);
        finds("the second PART is wrong", x, 0, NONE, 0, 3, 10, 0);
        finds("the ROW for a PART behind another", x, 0, NONE, 0, 3, 10, 30);
        int rows = Short.member(x, 2, 1, 11, 4, 20);
        finds("ROWS for PARTS ANY", x, 1, rows, 3, 30, 20, 10);
    }

    private static void specialByEachParameter() {
        due.sentence("SPECIAL is one of them, if against each other one each of its PARAMETERS is UNDER the other's");
        ReferenceRules x = withTypes();
        Short.member(x, 2, 0, 11, 0, 2, 3, 3);
        Short.member(x, 2, 0, 11, 0, 3, 3, 2);
        finds("one is not UNDER in the first, one not in the last", x, 0, TWO, 1, 4, 4, 4);
        int both = Short.member(x, 2, 0, 11, 0, 3, 3, 3);
        finds("one that is UNDER both", x, 0, both, 1, 4, 4, 4);
        finds("but it does not fit", x, 0, 0, 1, 2, 3, 3);
        Short.member(x, 2, 0, 11, 0, 2, 4, 3);
        finds("against each other one", x, 0, TWO, 1, 4, 4, 4);
        Short.member(x, 2, 1, 11, 0, 10);
        int box = Short.member(x, 2, 1, 11, 0, 1);
        Short.member(x, 2, 1, 11, 0, 0);
        finds("UNDER, not LOOSE", x, 1, box, 1, 1);
    }

    private static void specialAlone() {
        due.sentence("SPECIAL is one of them, if against each other one");
        ReferenceRules x = withTypes();
        int none = Short.member(x, 2, 0, 11, 0);
        finds("alone, without ARGUMENTS", x, 0, none, 1);
        int three = Short.member(x, 2, 1, 11, 0, 0, 0, 0);
        finds("alone, with three", x, 1, three, 2, 10, 0, 1);
        int varied = Short.member(x, 2, 2, 11, 4, 20);
        finds("alone, in PHASE 3, without ARGUMENTS", x, 2, varied, 3);
    }

    private static void specialByArgumentsAndParameters() {
        due.sentence("(PHASE 3: each of its PLACES, as many as there are ARGUMENTS, or PARAMETERS of one of both, whichever are most)");
        ReferenceRules x = withTypes();
        int three = Short.member(x, 2, 0, 11, 4, 23);
        Short.member(x, 2, 0, 11, 4, 22);
        finds("one PARAMETER each, no ARGUMENT", x, 0, three, 3);
        finds("one PARAMETER each, three ARGUMENTS", x, 0, three, 3, 4, 4, 4);
        int longer = Short.member(x, 2, 1, 11, 4, 2, 3, 23);
        Short.member(x, 2, 1, 11, 4, 22);
        finds("three PARAMETERS and one, two ARGUMENTS", x, 1, longer, 3, 3, 3);
        Short.member(x, 2, 2, 11, 4, 3, 3, 22);
        Short.member(x, 2, 2, 11, 4, 23);
        finds("the last of three PARAMETERS counts", x, 2, 5, 3, 3, 3);
        Short.member(x, 2, 3, 11, 4, 3, 3, 20);
        Short.member(x, 2, 3, 11, 4, 22);
        finds("the last of three PARAMETERS is not UNDER", x, 3, TWO, 3, 3, 3);
        Short.member(x, 2, 4, 11, 4, 3, 22);
        Short.member(x, 2, 4, 11, 4, 22);
        finds("as many ARGUMENTS as PARAMETERS", x, 4, 8, 3, 3, 3);
    }

    private static void justOneIsSpecial() {
        due.sentence("If just one is SPECIAL, it is found;");
        ReferenceRules x = withTypes();
        Short.member(x, 2, 0, 11, 4, 30);
        Short.member(x, 2, 0, 11, 4, 10, 30);
        finds("two are SPECIAL", x, 0, TWO, 3, 10);
        finds("two are SPECIAL, three ARGUMENTS", x, 0, TWO, 3, 10, 10, 10);
        finds("one fits", x, 0, 0, 3);
        Short.member(x, 2, 0, 11, 4, 10, 10, 30);
        finds("three are SPECIAL", x, 0, TWO, 3, 10, 1);
        Short.member(x, 2, 1, 11, 0, 2);
        Short.member(x, 2, 1, 11, 0, 3);
        int four = Short.member(x, 2, 1, 11, 0, 4);
        finds("one of three is SPECIAL", x, 1, four, 1, 4);
    }

    private static void noneIfTheFitIsEmpty() {
        due.sentence("NONE, if the FIT is empty,");
        ReferenceRules x = withTypes();
        finds("no MEMBERS", x, 0, NONE, 0);
        finds("no MEMBERS, three ARGUMENTS", x, 0, NONE, 0, 10, 10, 10);
        Short.member(x, 2, 0, 11, 0, 10);
        Short.member(x, 2, 0, 11, 0, 2);
        Short.member(x, 2, 0, 11, 4, 2, 30);
        finds("three MEMBERS, none fits", x, 0, NONE, 0, 5);
        finds("three MEMBERS, no ARGUMENTS", x, 0, NONE, 0);
    }

    private static void elseTwo() {
        due.sentence("else TWO.");
        ReferenceRules x = withTypes();
        Short.member(x, 2, 0, 11, 0, 2, 0);
        Short.member(x, 2, 0, 11, 0, 0, 2);
        finds("none is SPECIAL, PHASE 1", x, 0, TWO, 1, 2, 2);
        Short.member(x, 2, 1, 11, 0, 10, 0);
        Short.member(x, 2, 1, 11, 0, 0, 10);
        finds("none is SPECIAL, PHASE 2", x, 1, TWO, 2, 10, 10);
        Short.member(x, 2, 2, 11, 4, 30);
        Short.member(x, 2, 2, 11, 4, 20);
        finds("none is SPECIAL, PHASE 3", x, 2, TWO, 3);
        due.is("a third makes none SPECIAL, either", Short.member(x, 2, 0, 11, 0, 3, 0), 6);
        finds("none of three is SPECIAL", x, 0, TWO, 1, 3, 3);
    }
}
