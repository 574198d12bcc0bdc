/** Promises 1 to 9: a new object, type, under, loose, tell, untell, member, has, open. */
public final class TypesTest {
    private static final int BAD = ReferenceRules.BAD, FULL = ReferenceRules.FULL, STATE = ReferenceRules.STATE;
    private static final int NONE = ReferenceRules.NONE, CLASH = ReferenceRules.CLASH;
    private static final Due due = new Due();

    public static void main(String[] args) {
        newObject();
        type();
        under();
        underIsReflexiveAndKnowsEveryType();
        loose();
        tell();
        memberNumbersAndTold();
        memberBad();
        memberState();
        memberClashInItsOwnType();
        memberClashAlongTheLine();
        memberFull();
        memberOrderOfRefusals();
        has();
        hasHidesTheNextAbove();
        open();
        due.end();
    }

    private static void newObject() {
        ReferenceRules x = new ReferenceRules();
        int[] counts = {2, 0, 0, 0, 0, 0, 0};
        for (int i = 0; i < counts.length; i++) {
            due.is("new: count(" + i + ")", x.count(i), counts[i]);
        }
        due.is("new: untell", x.untell(), 0);
        due.is("new: result", x.result(), 0);
        due.is("new: traced", x.traced(0), NONE);
        due.is("new: BOX is under ANY", x.under(1, 0), 1);
        due.is("new: ANY is not under BOX", x.under(0, 1), 0);
        due.is("new: no type 2", x.under(2, 0), BAD);
        due.has("new", x, 0);
        due.has("new", x, 1);
        x.type(0);
        x.box(4);
        due.is("a second new object has nothing of the first", new ReferenceRules().count(0), 2);
    }

    private static void type() {
        ReferenceRules x = new ReferenceRules();
        int[] bad = {-1, 1, 2, 9, 10, 11, 20, 30, Integer.MIN_VALUE, Integer.MAX_VALUE};
        for (int parent : bad) {
            due.is("type(" + parent + ")", x.type(parent), BAD);
        }
        for (int t = 2; t <= 9; t++) {
            due.is("type " + t, x.type(t % 2 == 0 ? 0 : t - 1), t);
            due.is("count(0)", x.count(0), t + 1);
        }
        due.is("type(0) when full", x.type(0), FULL);
        due.is("type(1) when full", x.type(1), BAD);
        due.is("type(10) when full", x.type(10), BAD);
        due.is("count(0) when full", x.count(0), 10);
        due.is("9 under 8", x.under(9, 8), 1);
        due.is("9 under 7", x.under(9, 7), 0);
    }

    private static ReferenceRules lineOfThreeAndAnother() {
        ReferenceRules x = new ReferenceRules();
        x.type(0);
        x.type(2);
        x.type(3);
        x.type(0);
        return x;
    }

    private static void under() {
        ReferenceRules x = lineOfThreeAndAnother();
        int[][] yes = {{4, 3}, {4, 2}, {4, 0}, {3, 2}, {5, 0}, {1, 0}, {20, 0}, {21, 0}, {25, 0}, {30, 0},
            {24, 23}, {24, 22}, {24, 20}, {25, 20}, {21, 20}};
        int[][] no = {{0, 4}, {2, 3}, {5, 2}, {4, 5}, {4, 1}, {1, 4}, {10, 0}, {10, 1}, {1, 10}, {11, 0}, {0, 11},
            {10, 11}, {11, 10}, {22, 24}, {20, 24}, {25, 22}, {30, 20}, {20, 30}, {30, 21}, {30, 10}, {10, 30},
            {0, 20}, {22, 2}, {2, 22}, {22, 1}, {30, 1}, {24, 10}, {21, 22}, {20, 11}};
        for (int[] pair : yes) {
            due.is("under " + pair[0] + ", " + pair[1], x.under(pair[0], pair[1]), 1);
            due.is("loose " + pair[0] + ", " + pair[1], x.loose(pair[0], pair[1]), 1);
        }
        for (int[] pair : no) {
            due.is("under " + pair[0] + ", " + pair[1], x.under(pair[0], pair[1]), 0);
        }
    }

    private static void underIsReflexiveAndKnowsEveryType() {
        ReferenceRules x = lineOfThreeAndAnother();
        for (int t = -2; t <= 70; t++) {
            boolean isType = t >= 0 && t <= 5 || t == 10 || t == 11 || t >= 20 && t <= 25 || t == 30;
            due.is("under " + t + " itself", x.under(t, t), isType ? 1 : BAD);
            due.is("loose " + t + " itself", x.loose(t, t), isType ? 1 : BAD);
            due.holds("under " + t + ", 0 is BAD", (x.under(t, 0) == BAD) == !isType);
            due.holds("under 0, " + t + " is BAD", (x.under(0, t) == BAD) == !isType);
            due.holds("loose 10, " + t + " is BAD", (x.loose(10, t) == BAD) == !isType);
            due.holds("loose " + t + ", 10 is BAD", (x.loose(t, 10) == BAD) == !isType);
        }
        due.is("under MIN", x.under(Integer.MIN_VALUE, 0), BAD);
        due.is("under MAX", x.under(0, Integer.MAX_VALUE), BAD);
        due.is("loose MIN", x.loose(Integer.MIN_VALUE, 0), BAD);
        x.type(5);
        due.is("a row comes with its type", x.under(26, 25), 1);
    }

    private static void loose() {
        ReferenceRules x = lineOfThreeAndAnother();
        due.is("INT for BOX", x.loose(10, 1), 1);
        due.is("INT for ANY", x.loose(10, 0), 1);
        due.is("BOX for INT", x.loose(1, 10), 1);
        int[][] no = {{10, 2}, {10, 11}, {10, 20}, {10, 21}, {10, 30}, {0, 10}, {2, 10}, {30, 10}, {21, 30}, {30, 21},
            {30, 20}, {11, 10}, {11, 0}, {11, 1}, {0, 1}, {1, 2}, {1, 11}, {2, 3}, {20, 1}, {0, 11}};
        for (int[] pair : no) {
            due.is("loose " + pair[0] + ", " + pair[1], x.loose(pair[0], pair[1]), 0);
        }
    }

    private static void tell() {
        ReferenceRules x = lineOfThreeAndAnother();
        int[] bad = {-1, 6, 9, 11, 12, 19, 26, 29, 31, Integer.MIN_VALUE, Integer.MAX_VALUE};
        for (int t : bad) {
            due.is("tell " + t, x.tell(t), BAD);
        }
        int[] good = {0, 1, 2, 5, 10, 20, 21, 25, 30};
        for (int t : good) {
            due.is("tell " + t, x.tell(t), 1);
            due.is("untell", x.untell(), 1);
            due.is("untell again", x.untell(), 0);
        }
        due.is("tell first", x.tell(10), 1);
        due.is("tell second", x.tell(10), 2);
        due.is("tell third", x.tell(30), 3);
        due.is("tell fourth", x.tell(10), FULL);
        due.is("tell BAD fourth", x.tell(11), BAD);
        due.is("untell three", x.untell(), 3);
    }

    private static void memberNumbersAndTold() {
        ReferenceRules x = lineOfThreeAndAnother();
        x.tell(10);
        x.tell(22);
        due.is("refused", x.member(1, 0, 10, 0), BAD);
        due.is("what was told stays after a refusal", x.untell(), 2);
        x.tell(10);
        due.is("first", x.member(2, 0, 10, 0), 0);
        due.is("what was told is gone", x.untell(), 0);
        due.is("of ANY, VOID", x.member(0, 5, 11, 0), 1);
        due.is("a maker", x.member(5, 6, 5, 0), 2);
        due.is("a maker of ANY", x.member(0, 6, 0, 0), 3);
        due.is("results are types of all kinds", x.member(2, 1, 30, 0), 4);
        due.is("results are types of all kinds", x.member(2, 2, 25, 1), 5);
        due.is("results are types of all kinds", x.member(2, 3, 1, 2), 6);
        due.is("count(1)", x.count(1), 7);
    }

    private static void memberBad() {
        ReferenceRules x = lineOfThreeAndAnother();
        int[] types = {-1, 1, 6, 9, 10, 11, 20, 30, Integer.MIN_VALUE};
        for (int t : types) {
            due.is("member of " + t, x.member(t, 0, 10, 0), BAD);
        }
        int[] names = {-1, 7, Integer.MIN_VALUE, Integer.MAX_VALUE};
        for (int name : names) {
            due.is("name " + name, x.member(2, name, 2, 0), BAD);
        }
        int[] results = {-1, 6, 9, 12, 19, 26, 29, 31};
        for (int result : results) {
            due.is("result " + result, x.member(2, 0, result, 0), BAD);
        }
        due.is("marks -1", x.member(2, 0, 10, -1), BAD);
        due.is("marks 8", x.member(2, 0, 10, 8), BAD);
        due.is("static and abstract", x.member(2, 0, 10, 3), BAD);
        due.is("abstract of ANY", x.member(0, 0, 10, 2), BAD);
        due.is("static of ANY", x.member(0, 0, 10, 1), 0);
        memberBadVaried(x);
        memberBadMakers(x);
    }

    private static void memberBadVaried(ReferenceRules x) {
        due.is("varied without parameters", x.member(2, 1, 10, 4), BAD);
        due.is("varied, last INT", Short.member(x, 2, 1, 10, 4, 30, 10), BAD);
        due.is("varied, last ANY", Short.member(x, 2, 1, 10, 4, 0), BAD);
        due.is("varied, last a row", Short.member(x, 2, 1, 10, 4, 10, 22), 1);
        due.is("varied, last the row of ints", Short.member(x, 2, 1, 10, 4, 30), 2);
        due.is("varied and static", Short.member(x, 2, 1, 10, 5, 20), 3);
        due.is("varied and abstract", Short.member(x, 2, 1, 10, 6, 21), 4);
        due.is("all marks", Short.member(x, 2, 1, 10, 7, 25), BAD);
        due.is("varied and abstract of ANY", Short.member(x, 0, 1, 10, 6, 25), BAD);
    }

    private static void memberBadMakers(ReferenceRules x) {
        due.is("static maker", x.member(5, 6, 5, 1), BAD);
        due.is("abstract maker", x.member(5, 6, 5, 2), BAD);
        due.is("maker of another result", x.member(5, 6, 0, 0), BAD);
        due.is("maker of VOID", x.member(5, 6, 11, 0), BAD);
        due.is("varied maker without a row", x.member(5, 6, 5, 4), BAD);
        due.is("varied maker", Short.member(x, 5, 6, 5, 4, 30), 5);
    }

    private static void memberState() {
        ReferenceRules x = lineOfThreeAndAnother();
        x.member(2, 0, 10, 1);
        x.box(1);
        due.is("with things", x.member(2, 1, 10, 0), STATE);
        due.is("STATE ahead of CLASH", x.member(2, 0, 10, 1), STATE);
        due.is("BAD ahead of STATE", x.member(2, 7, 10, 1), BAD);
        x.clear();
        x.face(11);
        x.reference(0, 2, 0);
        due.is("a value", x.make(0, 0, 0), 0);
        due.is("with values", x.member(2, 1, 10, 0), STATE);
        x.tell(10);
        due.is("with values", x.member(2, 1, 10, 0), STATE);
        due.is("what was told stays", x.untell(), 1);
        x.clear();
        due.is("with none of them", x.member(2, 1, 10, 0), 1);
    }

    private static void memberClashInItsOwnType() {
        ReferenceRules x = lineOfThreeAndAnother();
        due.is("f(INT)", Short.member(x, 3, 0, 10, 0, 10), 0);
        due.is("f(INT) again", Short.member(x, 3, 0, 10, 0, 10), CLASH);
        due.is("f(INT) static", Short.member(x, 3, 0, 11, 1, 10), CLASH);
        due.is("f(BOX)", Short.member(x, 3, 0, 10, 0, 1), 1);
        due.is("f()", Short.member(x, 3, 0, 10, 0), 2);
        due.is("f() again", Short.member(x, 3, 0, 10, 0), CLASH);
        due.is("f(ANY) is not f()", Short.member(x, 3, 0, 10, 0, 0), 3);
        due.is("f(INT, INT)", Short.member(x, 3, 0, 10, 0, 10, 10), 4);
        due.is("f(INT, ANY)", Short.member(x, 3, 0, 10, 0, 10, 0), 5);
        due.is("f(ANY, INT)", Short.member(x, 3, 0, 10, 0, 0, 10), 6);
        due.is("g(INT)", Short.member(x, 3, 1, 10, 0, 10), 7);
        due.is("new()", Short.member(x, 3, 6, 3, 0), 8);
        due.is("new() again", Short.member(x, 3, 6, 3, 0), CLASH);
        due.is("new() of the parent", Short.member(x, 2, 6, 2, 0), 9);
        due.is("new() of the child", Short.member(x, 4, 6, 4, 0), 10);
        x.tell(10);
        due.is("f(INT) again", x.member(3, 0, 10, 0), CLASH);
        due.is("what was told stays after a clash", x.untell(), 1);
        due.is("count(1)", x.count(1), 11);
    }

    private static void memberClashAlongTheLine() {
        int[][] lines = {{2, 4}, {4, 2}, {3, 2}, {0, 5}, {5, 0}, {0, 4}};
        for (int[] line : lines) {
            String where = line[0] + " then " + line[1] + ": ";
            due.is(where + "like", secondAnswer(line, 30, 0, 30, 0), 1);
            due.is(where + "another result", secondAnswer(line, 30, 0, 10, 0), CLASH);
            due.is(where + "a result under it", secondAnswer(line, 0, 0, 2, 0), CLASH);
            due.is(where + "first static", secondAnswer(line, 30, 1, 30, 0), CLASH);
            due.is(where + "second static", secondAnswer(line, 30, 0, 30, 1), CLASH);
            due.is(where + "both static", secondAnswer(line, 30, 1, 30, 1), CLASH);
            due.is(where + "first varied", secondAnswer(line, 30, 4, 30, 0), CLASH);
            due.is(where + "second varied", secondAnswer(line, 30, 0, 30, 4), CLASH);
            due.is(where + "both varied", secondAnswer(line, 30, 4, 30, 4), 1);
            if (line[1] != 0) {
                due.is(where + "second abstract", secondAnswer(line, 30, 0, 30, 2), 1);
            }
            if (line[0] != 0) {
                due.is(where + "first abstract", secondAnswer(line, 30, 2, 30, 0), 1);
            }
        }
        int[] apart = {4, 5};
        due.is("apart: another result", secondAnswer(apart, 30, 0, 10, 0), 1);
        due.is("apart: static", secondAnswer(apart, 30, 1, 30, 0), 1);
        due.is("apart: varied", secondAnswer(apart, 30, 0, 30, 4), 1);
    }

    private static int secondAnswer(int[] line, int result0, int marks0, int result1, int marks1) {
        ReferenceRules x = lineOfThreeAndAnother();
        Short.member(x, line[0], 0, result0, marks0, 10, 30);
        return Short.member(x, line[1], 0, result1, marks1, 10, 30);
    }

    private static void memberFull() {
        ReferenceRules x = fullOfMembers();
        due.is("count(1)", x.count(1), 40);
        x.tell(30);
        x.tell(30);
        due.is("the 41st", x.member(2, 5, 10, 0), FULL);
        due.is("what was told stays", x.untell(), 2);
        due.is("count(1) still", x.count(1), 40);
        due.is("the last one is there", x.has(2, 39), 39);
    }

    private static ReferenceRules fullOfMembers() {
        ReferenceRules x = lineOfThreeAndAnother();
        int[] parameters = {0, 1, 2, 3, 4, 5, 10};
        for (int number = 0; number < 40; number++) {
            int made = Short.member(x, 2, number / 7, 10, 0, parameters[number % 7]);
            due.is("member " + number, made, number);
        }
        return x;
    }

    private static void memberOrderOfRefusals() {
        ReferenceRules x = fullOfMembers();
        due.is("CLASH ahead of FULL", Short.member(x, 2, 0, 10, 0, 0), CLASH);
        due.is("BAD ahead of FULL", Short.member(x, 1, 0, 10, 0, 0), BAD);
        x.box(3);
        due.is("STATE ahead of FULL", Short.member(x, 5, 0, 10, 0, 30), STATE);
    }

    private static void has() {
        ReferenceRules x = lineOfThreeAndAnother();
        int[] bad = {-1, 6, 9, 10, 11, 20, 21, 30, Integer.MAX_VALUE};
        for (int t : bad) {
            due.is("has(" + t + ", 0)", x.has(t, 0), BAD);
            due.is("has(" + t + ", -1)", x.has(t, -1), BAD);
        }
        Short.member(x, 3, 0, 10, 0, 10);
        Short.member(x, 2, 0, 10, 0, 10);
        Short.member(x, 0, 1, 11, 1);
        Short.member(x, 2, 6, 2, 0);
        Short.member(x, 0, 6, 0, 0);
        Short.member(x, 4, 0, 11, 1, 1);
        due.has("had", x, 0, 2, 4);
        due.has("had", x, 1, 2);
        due.has("had", x, 2, 1, 2, 3);
        due.has("had", x, 3, 0, 2);
        due.has("had", x, 4, 0, 2, 5);
        due.has("had", x, 5, 2);
        due.is("has(2, -1)", x.has(2, -1), NONE);
        due.is("has(2, MIN)", x.has(2, Integer.MIN_VALUE), NONE);
        due.is("has(2, MAX)", x.has(2, Integer.MAX_VALUE), NONE);
        due.is("a later type", x.type(2), 6);
        due.has("a later type has its parent's, but makers", x, 6, 1, 2);
        due.is("a later type", x.type(0), 7);
        due.has("a later type below ANY", x, 7, 2);
    }

    private static void hasHidesTheNextAbove() {
        int[][] orders = {{0, 2, 3}, {0, 3, 2}, {2, 0, 3}, {2, 3, 0}, {3, 0, 2}, {3, 2, 0}};
        for (int[] order : orders) {
            ReferenceRules x = lineOfThreeAndAnother();
            int[] numberOf = new int[4];
            for (int i = 0; i < 3; i++) {
                numberOf[order[i]] = i;
                due.is("member " + i, Short.member(x, order[i], 4, 10, 0, 20, 1), i);
            }
            due.has("ANY's", x, 0, numberOf[0]);
            due.has("BOX's", x, 1, numberOf[0]);
            due.has("2's", x, 2, numberOf[2]);
            due.has("3's", x, 3, numberOf[3]);
            due.has("4's", x, 4, numberOf[3]);
            due.has("5's", x, 5, numberOf[0]);
        }
    }

    private static void open() {
        ReferenceRules x = lineOfThreeAndAnother();
        int[] bad = {-1, 6, 10, 11, 20, 30};
        for (int t : bad) {
            due.is("open(" + t + ")", x.open(t), BAD);
        }
        Short.member(x, 2, 0, 10, 2, 10);
        int[] first = {0, 0, 1, 1, 1, 0};
        Short.member(x, 2, 0, 10, 2, 1);
        areOpen("two abstract in 2", x, first);
        Short.member(x, 3, 0, 10, 0, 10);
        areOpen("one of them done in 3", x, first);
        Short.member(x, 3, 0, 10, 0, 1);
        areOpen("both done in 3", x, 0, 0, 1, 0, 0, 0);
        Short.member(x, 4, 0, 10, 2, 1);
        areOpen("one abstract in 4 again", x, 0, 0, 1, 0, 1, 0);
        Short.member(x, 0, 0, 10, 0, 1);
        areOpen("one in ANY does not close those below", x, 0, 0, 1, 0, 1, 0);
        due.is("a later type", x.type(4), 6);
        due.is("a later type is open as its parent", x.open(6), 1);
    }

    private static void areOpen(String what, ReferenceRules x, int... open) {
        for (int t = 0; t < open.length; t++) {
            due.is(what + ": open(" + t + ")", x.open(t), open[t]);
        }
    }
}
