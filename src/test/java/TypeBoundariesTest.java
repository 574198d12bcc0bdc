import java.util.Arrays;

/** The boundary cases that part 1 of the Terms (TYPES) names, a test for each of its sentences. */
public final class TypeBoundariesTest {
    private static final int BAD = ReferenceRules.BAD, FULL = ReferenceRules.FULL, NONE = ReferenceRules.NONE;
    private static final int MIN = Integer.MIN_VALUE, MAX = Integer.MAX_VALUE;
    private static final Due due = new Due();

    public static void main(String[] args) {
        typesTwoToNine();
        numbersOfTypes();
        underItself();
        underByParents();
        rowsUnderAny();
        rowsAsTheirTypes();
        underThemselvesAlone();
        looseByInt();
        looseByBox();
        fortyMembers();
        ownersOfMembers();
        namesOfMembers();
        parametersOfMembers();
        resultsOfMembers();
        marksOfMembers();
        variedHasARowLast();
        hasOwnAndThoseAbove();
        hasNoMakersOfOthers();
        hasWithoutHidden();
        openByOneAbstract();
        boxAndRowHaveThoseOfAny();
        due.end();
    }

    private static void typesTwoToNine() {
        due.sentence("0 is ANY, without a PARENT; 1 is BOX (of an int), of PARENT ANY; 2 to 9 are told, each with a PARENT.");
        ReferenceRules x = new ReferenceRules();
        due.is("BOX is under ANY", x.under(1, 0), 1);
        due.is("ANY is under no other", x.under(0, 1), 0);
        for (int t = 2; t <= 9; t++) {
            due.is(t + " is not told yet", x.under(t, 0), BAD);
            due.is("it has no row yet", x.under(20 + t, 0), BAD);
            due.is("type " + t, x.type(0), t);
            due.is(t + " is told", x.under(t, 0), 1);
            due.is("it has a row", x.under(20 + t, 0), 1);
        }
        due.is("there is no type 10 more", x.type(0), FULL);
    }

    private static void numbersOfTypes() {
        due.sentence("10 is INT, 11 VOID; 20 to 29 are the ROWS of TYPES 0 to 9, 30 that of INTS.");
        ReferenceRules x = Short.lineOfTypes();
        int[] around = {MIN, -21, -20, -10, -1, 12, 13, 18, 19, 31, 32, 33, 40, 41, 63, 64, 65, MAX};
        for (int t : around) {
            due.is(t + " is no type", x.under(t, t), BAD);
        }
        for (int t = 0; t <= 11; t++) {
            due.is(t + " is a type", x.under(t, t), 1);
        }
        for (int t = 20; t <= 30; t++) {
            due.is(t + " is a type", x.under(t, t), 1);
        }
    }

    private static void underItself() {
        due.sentence("UNDER: a TYPE itself;");
        ReferenceRules x = Short.types(0, 0);
        int[] all = {0, 1, 2, 3};
        for (int a : all) {
            for (int b : all) {
                due.is("under(" + a + ", " + b + ")", x.under(a, b), a == b || b == 0 ? 1 : 0);
            }
        }
    }

    private static void underByParents() {
        due.sentence("one whose PARENT is UNDER;");
        ReferenceRules x = Short.lineOfTypes();
        for (int a = 2; a <= 9; a++) {
            for (int b = 2; b <= 9; b++) {
                due.is("under(" + a + ", " + b + ")", x.under(a, b), a >= b ? 1 : 0);
            }
            due.is("under(" + a + ", 0)", x.under(a, 0), 1);
            due.is("under(0, " + a + ")", x.under(0, a), 0);
            due.is("under(" + a + ", 1)", x.under(a, 1), 0);
            due.is("under(1, " + a + ")", x.under(1, a), 0);
        }
    }

    private static void rowsUnderAny() {
        due.sentence("every ROW under ANY;");
        ReferenceRules x = Short.lineOfTypes();
        for (int row = 20; row <= 30; row++) {
            for (int t = 0; t <= 11; t++) {
                due.is("under(" + row + ", " + t + ")", x.under(row, t), t == 0 ? 1 : 0);
                due.is("under(" + t + ", " + row + ")", x.under(t, row), 0);
            }
        }
    }

    private static void rowsAsTheirTypes() {
        due.sentence("ROWS of 0 to 9 as these are");
        ReferenceRules x = Short.types(0, 2, 3, 0, 5, 0, 7, 3);
        for (int a = 0; a <= 9; a++) {
            for (int b = 0; b <= 9; b++) {
                due.is("rows of " + a + ", " + b, x.under(20 + a, 20 + b), x.under(a, b));
            }
        }
        due.is("the row of 9 under that of ANY", x.under(29, 20), 1);
        due.is("the row of ANY under that of 9", x.under(20, 29), 0);
        due.is("the row of 9 under that of 4", x.under(29, 24), 0);
    }

    private static void underThemselvesAlone() {
        due.sentence("(INT, VOID, the ROW of INTS under themselves, that ROW under ANY, too)");
        ReferenceRules x = Short.lineOfTypes();
        int[] alone = {10, 11, 30};
        for (int a : alone) {
            for (int b = 0; b <= 30; b++) {
                if (b <= 11 || b >= 20) {
                    boolean isUnder = a == b || a == 30 && b == 0;
                    due.is("under(" + a + ", " + b + ")", x.under(a, b), isUnder ? 1 : 0);
                    due.is("under(" + b + ", " + a + ")", x.under(b, a), a == b ? 1 : 0);
                }
            }
        }
    }

    private static void looseByInt() {
        due.sentence("A type is LOOSE for another one, if it is UNDER it, or INT and BOX is UNDER that");
        ReferenceRules x = Short.lineOfTypes();
        for (int b = 0; b <= 30; b++) {
            if (b <= 11 || b >= 20) {
                due.is("INT for " + b, x.loose(10, b), b == 0 || b == 1 || b == 10 ? 1 : 0);
                due.is("VOID for " + b, x.loose(11, b), b == 11 ? 1 : 0);
                due.is("9 for " + b, x.loose(9, b), b < 10 && b != 1 ? 1 : 0);
            }
        }
    }

    private static void looseByBox() {
        due.sentence("or BOX and that is INT.");
        ReferenceRules x = Short.lineOfTypes();
        for (int a = 0; a <= 30; a++) {
            if (a <= 11 || a >= 20) {
                due.is(a + " for INT", x.loose(a, 10), a == 1 || a == 10 ? 1 : 0);
            }
        }
        due.is("a row of BOXES for one of INTS", x.loose(21, 30), 0);
        due.is("a row of INTS for one of BOXES", x.loose(30, 21), 0);
    }

    private static void fortyMembers() {
        due.sentence("MEMBERS, 40 at most,");
        ReferenceRules x = Short.types(0, 0);
        for (int i = 0; i < 40; i++) {
            due.is("member " + i, Short.member(x, 2 + i % 2, i / 2 % 6, 11, 0, parametersOf(i / 12)), i);
        }
        due.is("one more", Short.member(x, 0, 0, 11, 0, 30), FULL);
        due.is("a MAKER more", Short.member(x, 0, 6, 0, 0), FULL);
        due.is("there are 40", x.count(1), 40);
        due.is("the last one is HAD", x.has(3, 19), 39);
        due.is("ANY got none", x.has(0, 0), NONE);
    }

    private static int[] parametersOf(int howMany) {
        int[] parameters = new int[howMany];
        Arrays.fill(parameters, 10);
        return parameters;
    }

    private static void ownersOfMembers() {
        due.sentence("each of a TYPE 0, 2 to 9,");
        ReferenceRules x = Short.types(0, 0, 0, 0, 0, 0, 0);
        int[] bad = {MIN, -1, 1, 9, 10, 11, 20, 22, 30, MAX};
        for (int t : bad) {
            due.is("a member of " + t, x.member(t, 0, 11, 0), BAD);
        }
        due.is("of ANY", x.member(0, 0, 11, 0), 0);
        due.is("of 2", x.member(2, 0, 11, 0), 1);
        due.is("of 8", x.member(8, 0, 11, 0), 2);
        due.is("type 9", x.type(0), 9);
        due.is("of 9, now that it is told", x.member(9, 0, 11, 0), 3);
    }

    private static void namesOfMembers() {
        due.sentence("have a NAME 0 to 5, or 6 (a MAKER);");
        ReferenceRules x = Short.types(0);
        int[] bad = {MIN, -1, 7, MAX};
        for (int name : bad) {
            due.is("name " + name, x.member(2, name, 2, 0), BAD);
        }
        for (int name = 0; name <= 6; name++) {
            due.is("name " + name, x.member(2, name, 2, 0), name);
        }
        x.type(2);
        due.has("6 alone is a MAKER", x, 3, 0, 1, 2, 3, 4, 5);
    }

    private static void parametersOfMembers() {
        due.sentence("up to 3 PARAMETERS (0 to 10, 20 to 30);");
        ReferenceRules x = Short.lineOfTypes();
        for (int t = 0; t <= 30; t++) {
            boolean isGood = t <= 10 || t >= 20;
            due.is("parameter " + t, x.tell(t), isGood ? 1 : BAD);
            due.is("told", x.untell(), isGood ? 1 : 0);
        }
        due.is("parameter -1", x.tell(-1), BAD);
        due.is("parameter 31", x.tell(31), BAD);
        due.is("none", Short.member(x, 2, 0, 11, 0), 0);
        due.is("one", Short.member(x, 2, 0, 11, 0, 10), 1);
        due.is("two", Short.member(x, 2, 0, 11, 0, 10, 10), 2);
        x.tell(10);
        x.tell(10);
        x.tell(10);
        due.is("a fourth", x.tell(10), FULL);
        due.is("three", x.member(2, 0, 11, 0), 3);
        due.is("three again", Short.member(x, 2, 0, 11, 0, 10, 10, 10), ReferenceRules.CLASH);
    }

    private static void resultsOfMembers() {
        due.sentence("a RESULT (these, or VOID; of a MAKER its TYPE);");
        ReferenceRules x = Short.lineOfTypes();
        int[] bad = {MIN, -1, 12, 19, 31, MAX};
        for (int result : bad) {
            due.is("result " + result, x.member(2, 0, result, 0), BAD);
        }
        int made = 0;
        for (int result = 0; result <= 30; result++) {
            if (result <= 11 || result >= 20) {
                due.is("result " + result, Short.member(x, 2, made / 8, result, 0, made % 8), made);
                made++;
            }
        }
        for (int result = 0; result <= 30; result++) {
            if (result != 3) {
                due.is("a MAKER of 3, result " + result, x.member(3, 6, result, 0), BAD);
            }
        }
        due.is("a MAKER of 3, result 3", x.member(3, 6, 3, 0), made);
    }

    private static void marksOfMembers() {
        due.sentence("marks, added up: STATIC 1, ABSTRACT 2, VARIED 4");
        ReferenceRules x = Short.types(0);
        int[] bad = {MIN, -8, -1, 3, 7, 8, 9, 16, MAX};
        for (int marks : bad) {
            due.is("marks " + marks, Short.member(x, 2, 0, 11, marks, 30), BAD);
        }
        int[] good = {0, 1, 2, 4, 5, 6};
        for (int i = 0; i < good.length; i++) {
            due.is("marks " + good[i], Short.member(x, 2, i, 11, good[i], 30), i);
        }
        int f = Short.face(x, 11, 30);
        int[] meant = {0, -13, 2, 3, -13, 5};
        for (int name = 0; name < 6; name++) {
            int r = x.reference(1, 2, name);
            due.is("of a value, marks " + good[name], x.meant(r, f), meant[name]);
            due.is("exact, marks " + good[name], x.exact(r), good[name] < 4 ? 1 : 0);
        }
    }

    private static void variedHasARowLast() {
        due.sentence("(the last PARAMETER is a ROW then, whose places have its PART)");
        ReferenceRules x = Short.lineOfTypes();
        due.is("without any", Short.member(x, 2, 0, 11, 4), BAD);
        for (int t = 0; t <= 10; t++) {
            due.is("last is " + t, Short.member(x, 2, 0, 11, 4, 20, 30, t), BAD);
        }
        int made = 0;
        for (int row = 20; row <= 30; row++) {
            due.is("last is " + row, Short.member(x, 2, 0, 11, 5, row), made);
            made++;
        }
        due.is("a ROW that is not last", Short.member(x, 2, 0, 11, 4, 30, 10), BAD);
        due.is("without VARIED none is asked for", Short.member(x, 2, 0, 11, 1, 30, 10), made);
        for (int row = 20; row <= 30; row++) {
            placesHaveThePart(row, row == 30 ? 10 : row - 20);
        }
    }

    private static void placesHaveThePart(int row, int part) {
        ReferenceRules x = Short.lineOfTypes();
        Short.member(x, 2, 0, 11, 5, row);
        int r = x.reference(0, 2, 0);
        due.is("three places of " + row, x.phase(r, Short.face(x, 11, part, part, part), 1), 3);
        due.is("an ANY in a place of " + row, x.phase(r, Short.face(x, 11, part, 0, part), 1), part == 0 ? 3 : 0);
        due.is("the ROW in a place of " + row, x.phase(r, Short.face(x, 11, part, row), 1), part == 0 ? 3 : 0);
    }

    private static void hasOwnAndThoseAbove() {
        due.sentence("A TYPE HAS its own MEMBERS, and, but MAKERS, those of the TYPES that it is UNDER,");
        ReferenceRules x = Short.lineOfTypes();
        due.has("at first", x, 9);
        Short.member(x, 9, 0, 11, 0);
        Short.member(x, 9, 1, 11, 1, 10);
        due.has("9 HAS its own", x, 9, 0, 1);
        due.has("8 does not HAVE those of 9", x, 8);
        Short.member(x, 2, 3, 11, 0);
        Short.member(x, 0, 4, 11, 0);
        due.has("9 HAS those of 2 and ANY", x, 9, 0, 1, 2, 3);
        due.has("8 HAS those of 2 and ANY", x, 8, 2, 3);
        due.has("2 HAS its own and ANY's", x, 2, 2, 3);
        due.has("ANY HAS its own", x, 0, 3);
    }

    private static void hasNoMakersOfOthers() {
        due.sentence("and, but MAKERS,");
        ReferenceRules x = Short.types(0, 2);
        Short.member(x, 2, 6, 2, 0, 10);
        Short.member(x, 0, 6, 0, 0, 10);
        Short.member(x, 3, 6, 3, 0, 1);
        due.has("ANY's own alone", x, 0, 1);
        due.has("BOX none", x, 1);
        due.has("2's own alone", x, 2, 0);
        due.has("3's own alone", x, 3, 2);
        due.is("4 below 3", x.type(3), 4);
        due.has("4 none", x, 4);
    }

    private static void hasWithoutHidden() {
        due.sentence("without those of a NAME and PARAMETERS that one of a TYPE below them has, too, which it HAS.");
        ReferenceRules x = Short.types(0, 2, 3, 2);
        Short.member(x, 2, 0, 11, 0, 10, 1);
        Short.member(x, 3, 0, 11, 0, 1, 10);
        Short.member(x, 3, 0, 11, 0, 10);
        Short.member(x, 3, 1, 11, 0, 10, 1);
        Short.member(x, 3, 0, 11, 0, 10, 1, 1);
        due.has("another order, fewer, more, another NAME hide nothing", x, 4, 0, 1, 2, 3, 4);
        Short.member(x, 3, 0, 11, 0, 10, 1);
        due.has("the same hides in 3", x, 3, 1, 2, 3, 4, 5);
        due.has("and below 3", x, 4, 1, 2, 3, 4, 5);
        due.has("not in 2", x, 2, 0);
        due.has("not beside 3", x, 5, 0);
        Short.member(x, 4, 0, 11, 0, 10, 1);
        due.has("the lowest one is HAD", x, 4, 1, 2, 3, 4, 6);
        due.has("3 still HAS its own", x, 3, 1, 2, 3, 4, 5);
        Short.member(x, 0, 0, 11, 0, 10, 1);
        due.has("one above all is hidden from 4", x, 4, 1, 2, 3, 4, 6);
        due.has("and from 5", x, 5, 0);
        due.has("but not from BOX", x, 1, 7);
    }

    private static void openByOneAbstract() {
        due.sentence("A TYPE is OPEN, if it HAS an ABSTRACT one.");
        ReferenceRules x = Short.types(0, 2, 3);
        due.is("without members", x.open(2), 0);
        Short.member(x, 2, 0, 11, 2);
        Short.member(x, 2, 1, 11, 2);
        due.is("with two", x.open(2), 1);
        due.is("below", x.open(4), 1);
        Short.member(x, 3, 0, 11, 0);
        due.is("one of two is hidden", x.open(3), 1);
        Short.member(x, 4, 1, 11, 0);
        due.is("both are hidden, by two types", x.open(4), 0);
        due.is("not in the one between", x.open(3), 1);
        due.is("nor above", x.open(2), 1);
        due.is("ANY is not", x.open(0), 0);
        due.is("BOX is not", x.open(1), 0);
    }

    private static void boxAndRowHaveThoseOfAny() {
        due.sentence("(BOX, and a ROW, HAVE those of ANY.)");
        ReferenceRules x = Short.types(0);
        due.has("none yet", x, 1);
        Short.member(x, 0, 0, 10, 0);
        Short.member(x, 2, 0, 10, 0);
        Short.member(x, 0, 1, 10, 1);
        due.has("BOX", x, 1, 0, 2);
        due.is("a ROW by has() is BAD", x.has(20, 0), BAD);
        int hash = Short.face(x, 10, 0);
        int v = x.make(x.reference(0, 0, 0), hash, 0);
        for (int t : new int[] {0, 2, 10}) {
            int rows = x.make(x.reference(4, t, 0), Short.face(x, 0, 10), 0);
            due.is("a ROW of " + t + " has ANY's", Short.gives(x, v, Short.gives(x, rows, 0)), 0);
        }
        due.is("a BOX has ANY's", Short.gives(x, v, x.box(5)), 0);
        due.is("a 2 has its own", Short.gives(x, v, x.thing(2)), 100);
    }
}
