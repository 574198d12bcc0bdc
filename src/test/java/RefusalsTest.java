import java.util.ArrayList;
import java.util.List;
import java.util.function.Supplier;
import java.util.function.ToIntFunction;

/**
 * The sentence on refusals that stands behind the Terms: which one counts of several, and that what
 * is refused changes nothing. Each refused call is made on an object whose twin is spared it; then
 * both must tell the same of all that can be seen, and go on alike.
 */
public final class RefusalsTest {
    private static final int BAD = ReferenceRules.BAD, FULL = ReferenceRules.FULL, STATE = ReferenceRules.STATE;
    private static final int NONE = ReferenceRules.NONE, CLASH = ReferenceRules.CLASH;
    private static final int NULL = ReferenceRules.NULL, SIZE = ReferenceRules.SIZE;
    private static final int FAILURES = 6;
    private static final Due due = new Due();

    public static void main(String[] args) {
        firstThatIsNamedCounts();
        changesNothingWithRoom();
        changesNothingWhenAllIsFull();
        changesNothingWithoutThings();
        due.end();
    }

    /**
     * With room for more: types 2 to 5 (4 is OPEN), members 0 to 5, faces 0 to 4, references 0 to 5,
     * things 1 to 4, values 0 to 4; two are told, ARGS are set, there are a failure, a result, a trace.
     */
    private static ReferenceRules withRoom() {
        ReferenceRules x = withMembers();
        x.thing(3);
        x.box(-1);
        x.make(0, 0, 0);
        x.make(1, 0, 1);
        x.make(4, 1, 0);
        x.make(0, 2, 0);
        x.make(4, 3, 0);
        Short.call(x, 0, 40, 2);
        Short.call(x, 2, 2, 0);
        x.call(4);
        x.make(1, 0, 0);
        x.tell(10);
        x.tell(3);
        x.arg(2, 9);
        return x;
    }

    private static ReferenceRules withMembers() {
        ReferenceRules x = Short.types(0, 2, 2, 0);
        Short.member(x, 2, 0, 0, 1, 10, 1);
        Short.member(x, 2, 1, 10, 0, 10, 1);
        Short.member(x, 3, 1, 10, 0, 10, 1);
        Short.member(x, 4, 2, 11, 2);
        Short.member(x, 3, 6, 3, 0, 10);
        Short.member(x, 5, 0, 30, 5, 10, 30);
        Short.face(x, 11, 10, 1);
        Short.face(x, 0, 10);
        Short.face(x, 0, 1, 10);
        Short.face(x, 0, 1);
        Short.face(x, 30, 3);
        x.reference(0, 2, 0);
        x.reference(1, 2, 1);
        x.reference(2, 3, 1);
        x.reference(3, 4, 0);
        x.reference(4, 5, 0);
        x.reference(0, 5, 0);
        return x;
    }

    /** As withRoom(), but that none of anything can come any more. */
    private static ReferenceRules full() {
        ReferenceRules x = withMembers();
        int[] parameters = {0, 1, 2, 3, 4, 5, 10};
        for (int i = 0; x.count(1) < 40 && i < 35; i++) {
            Short.member(x, 5, 1 + i / 7, 11, 0, parameters[i % 7]);
        }
        for (int i = x.count(0); i < 10; i++) {
            x.type(0);
        }
        for (int i = x.count(2); i < 10; i++) {
            x.face(11);
        }
        for (int i = x.count(3); i < 30; i++) {
            x.reference(4, 10, 0);
        }
        x.thing(3);
        x.box(-1);
        x.make(0, 0, 0);
        x.make(1, 0, 1);
        x.make(4, 1, 0);
        x.make(0, 2, 0);
        x.make(4, 3, 0);
        for (int i = x.count(5); i < 30; i++) {
            x.make(4, 1, 0);
        }
        Short.call(x, 0, 40, 2);
        Short.fillThings(x, 60);
        x.tell(10);
        x.tell(3);
        x.tell(30);
        x.arg(2, 9);
        return x;
    }

    private static void isFull(ReferenceRules x) {
        int[] most = {10, 40, 10, 30, 60, 30};
        for (int what = 0; what < most.length; what++) {
            due.is("full: count(" + what + ")", x.count(what), most[what]);
        }
    }

    private static void firstThatIsNamedCounts() {
        due.sentence("Of several refusals the first that a call names counts;");
        ReferenceRules x = full();
        isFull(x);
        due.is("type: BAD, FULL", x.type(1), BAD);
        due.is("type: FULL", x.type(0), FULL);
        due.is("tell: BAD, FULL", x.tell(11), BAD);
        due.is("tell: FULL", x.tell(0), FULL);
        due.is("member: BAD, STATE, CLASH, FULL", Short.member(x, 2, 0, 0, 8, 10, 1), BAD);
        due.is("member: STATE, CLASH, FULL", Short.member(x, 2, 0, 0, 1, 10, 1), STATE);
        due.is("face: BAD, FULL", x.face(12), BAD);
        due.is("face: FULL", x.face(0), FULL);
        due.is("reference: BAD, FULL", x.reference(3, 1, 0), BAD);
        due.is("reference: FULL", x.reference(3, 2, 0), FULL);
        due.is("search: BAD, STATE", x.search(3, 0, 2), BAD);
        due.is("search: STATE", x.search(3, 0, 1), STATE);
        due.is("phase: BAD, STATE", x.phase(3, 0, 2), BAD);
        due.is("phase: STATE", x.phase(3, 0, 1), STATE);
        due.is("has: BAD, NONE", x.has(10, 99), BAD);
        due.is("has: NONE", x.has(9, 99), NONE);
        due.is("thing: BAD, FULL", x.thing(1), BAD);
        due.is("thing: STATE, FULL", x.thing(4), STATE);
        due.is("thing: FULL", x.thing(3), FULL);
        due.is("make: BAD, STATE, FULL", x.make(0, 4, 1), BAD);
        due.is("make: STATE, NULL, FULL", x.make(1, 4, 0), STATE);
        due.is("make: STATE, the BAD of NULL, FULL", x.make(2, 4, 0), STATE);
        due.is("make: NULL, FULL", x.make(1, 0, 0), NULL);
        due.is("make: the BAD of NULL, FULL", x.make(2, 0, 0), BAD);
        due.is("make: FULL", x.make(1, 0, 1), FULL);
        due.is("call: BAD, FULL", Short.call(x, 3, 1, 5), BAD);
        due.is("call: SIZE, FULL", Short.call(x, 2, -1), SIZE);
        due.is("call: NULL, FULL", Short.call(x, 3, 0, 5), NULL);
        due.is("call: FULL", Short.call(x, 2, 1), FULL);
        x.clear();
        due.is("member: CLASH, FULL", Short.member(x, 2, 0, 0, 1, 10, 1), CLASH);
        due.is("member: FULL", Short.member(x, 2, 0, 0, 1, 10, 10), FULL);
    }

    private static void changesNothingWithRoom() {
        due.sentence("what is refused changes nothing.");
        Supplier<ReferenceRules> room = RefusalsTest::withRoom;
        ReferenceRules x = withRoom();
        int[] counts = {6, 6, 5, 6, 4, 5, 2};
        for (int what = 0; what < counts.length; what++) {
            due.is("with room: count(" + what + ")", x.count(what), counts[what]);
        }
        spares(room, "type(1)", BAD, y -> y.type(1));
        spares(room, "under(0, 6)", BAD, y -> y.under(0, 6));
        spares(room, "loose(31, 0)", BAD, y -> y.loose(31, 0));
        spares(room, "tell(11)", BAD, y -> y.tell(11));
        spares(room, "tell(6)", BAD, y -> y.tell(6));
        spares(room, "member of BOX", BAD, y -> y.member(1, 0, 11, 0));
        spares(room, "member, VARIED", BAD, y -> y.member(2, 0, 11, 4));
        spares(room, "member with things", STATE, y -> y.member(2, 5, 11, 0));
        spares(room, "has(6, 0)", BAD, y -> y.has(6, 0));
        spares(room, "has(2, 40)", NONE, y -> y.has(2, 40));
        spares(room, "open(10)", BAD, y -> y.open(10));
        spares(room, "face(12)", BAD, y -> y.face(12));
        spares(room, "reference(5, 2, 0)", BAD, y -> y.reference(5, 2, 0));
        spares(room, "reference(0, 2, 6)", BAD, y -> y.reference(0, 2, 6));
        spares(room, "meant(6, 0)", BAD, y -> y.meant(6, 0));
        spares(room, "search(0, 0, 3)", BAD, y -> y.search(0, 0, 3));
        spares(room, "search(3, 0, 1)", STATE, y -> y.search(3, 0, 1));
        spares(room, "phase(3, 0, 1)", STATE, y -> y.phase(3, 0, 1));
        spares(room, "exact(6)", BAD, y -> y.exact(6));
        spares(room, "thing(1)", BAD, y -> y.thing(1));
        spares(room, "thing(4)", STATE, y -> y.thing(4));
        spares(room, "of(0, 0)", BAD, y -> y.of(0, 0));
        spares(room, "place(1, 0)", BAD, y -> y.place(1, 0));
        spares(room, "make, receiver", BAD, y -> y.make(0, 0, 1));
        spares(room, "make, nothing is MEANT", STATE, y -> y.make(0, 4, 0));
        spares(room, "make, NULL", NULL, y -> y.make(1, 0, 0));
        spares(room, "make, NULL of FORM 2", BAD, y -> y.make(2, 0, 0));
        spares(room, "arg(3, 5)", BAD, y -> y.arg(3, 5));
        spares(room, "arg(-1, 5)", BAD, y -> y.arg(-1, 5));
        spares(room, "call(5)", BAD, y -> y.call(5));
        sparesCalls(room);
        spares(room, "traced(9)", NONE, y -> y.traced(9));
        spares(room, "count(7)", BAD, y -> y.count(7));
    }

    /** The twin's ARGS are set, too: arg() is not refused. */
    private static void sparesCalls(Supplier<ReferenceRules> room) {
        int[][] calls = {{3, 0, 5, NULL}, {2, -1, 0, SIZE}, {2, 21, 0, FULL}, {4, 0, 0, NULL}, {4, 2, 0, SIZE}, {3, 1, 5, BAD},
            {0, 5, 99, BAD}};
        for (int[] c : calls) {
            Supplier<ReferenceRules> withArgs = () -> {
                ReferenceRules x = room.get();
                x.arg(0, c[1]);
                x.arg(1, c[2]);
                return x;
            };
            spares(withArgs, "call(" + c[0] + ") with " + c[1] + ", " + c[2], c[3], y -> y.call(c[0]));
        }
    }

    private static void changesNothingWhenAllIsFull() {
        due.sentence("what is refused changes nothing.");
        Supplier<ReferenceRules> all = RefusalsTest::full;
        spares(all, "type(0)", FULL, y -> y.type(0));
        spares(all, "tell(0)", FULL, y -> y.tell(0));
        spares(all, "member", STATE, y -> y.member(2, 5, 11, 0));
        spares(all, "face(0)", FULL, y -> y.face(0));
        spares(all, "reference(0, 2, 0)", FULL, y -> y.reference(0, 2, 0));
        spares(all, "thing(3)", FULL, y -> y.thing(3));
        spares(all, "box(7)", FULL, y -> y.box(7));
        spares(all, "make", FULL, y -> y.make(4, 1, 0));
        spares(all, "make, NULL", NULL, y -> y.make(1, 0, 0));
        spares(all, "call(2)", FULL, y -> y.call(2));
        spares(all, "call(0)", FULL, y -> y.call(0));
    }

    private static void changesNothingWithoutThings() {
        due.sentence("what is refused changes nothing.");
        Supplier<ReferenceRules> told = () -> {
            ReferenceRules x = withMembers();
            x.tell(10);
            x.tell(1);
            return x;
        };
        spares(told, "member, CLASH", CLASH, y -> y.member(2, 0, 0, 1));
        spares(told, "member, CLASH below", CLASH, y -> y.member(0, 1, 11, 0));
        spares(told, "member, marks 8", BAD, y -> y.member(2, 0, 0, 8));
        Supplier<ReferenceRules> most = () -> {
            ReferenceRules x = full();
            x.clear();
            return x;
        };
        spares(most, "member, FULL", FULL, y -> y.member(2, 5, 11, 0));
    }

    /** The refused call must be refused so, and leave its object like the twin that was spared it. */
    private static void spares(Supplier<ReferenceRules> made, String call, int refusal, ToIntFunction<ReferenceRules> refused) {
        ReferenceRules x = made.get();
        ReferenceRules twin = made.get();
        due.is(call, refused.applyAsInt(x), refusal);
        int failures = refusal == NULL || refusal == SIZE ? 1 : 0;
        due.is(call + ": failures", x.count(FAILURES), twin.count(FAILURES) + failures);
        List<Integer> seen = new ArrayList<>();
        List<Integer> twins = new ArrayList<>();
        look(x, seen);
        look(twin, twins);
        goOn(x, seen);
        goOn(twin, twins);
        due.holds(call + " leaves " + seen + ", its twin has " + twins, seen.equals(twins));
    }

    /** What can be seen without a change. */
    private static void look(ReferenceRules x, List<Integer> seen) {
        for (int what = 0; what < FAILURES; what++) {
            seen.add(x.count(what));
        }
        seen.add(x.result());
        for (int i = 0; i < 4; i++) {
            seen.add(x.traced(i));
        }
        for (int t = 0; t <= 6; t++) {
            seen.add(x.open(t));
            seen.add(x.has(t, 0));
            seen.add(x.has(t, 1));
            seen.add(x.under(t, 2));
        }
        for (int r = 0; r <= 5; r++) {
            seen.add(x.exact(r));
            seen.add(x.meant(r, 0));
            seen.add(x.meant(r, 2));
        }
        for (int thing = 1; thing <= 7; thing++) {
            seen.add(x.of(thing, 0));
            seen.add(x.of(thing, 1));
            seen.add(x.place(thing, 0));
        }
    }

    /** What shows only by what comes next: ARGS by calls, what is told by a FACE and by untell(). */
    private static void goOn(ReferenceRules x, List<Integer> seen) {
        for (int value = 0; value < 5; value++) {
            seen.add(x.call(value));
            seen.add(x.result());
        }
        seen.add(x.count(4));
        seen.add(x.box(77));
        seen.add(x.make(4, 1, 0));
        seen.add(x.clear());
        seen.add(x.tell(10));
        seen.add(x.member(5, 5, 11, 1));
        seen.add(x.has(5, x.count(1) < 40 ? 2 : 34));
        seen.add(x.reference(0, 5, 5));
        seen.add(x.untell());
        Short.face(x, 11, 10, 3, 10);
        seen.add(x.meant(6, 5));
        seen.add(x.type(0));
    }
}
