/** Short ways to what the tests make again and again. */
final class Short {
    static final int ANY = 0, BOX = 1, INT = 10, VOID = 11, INTS = 30;
    static final int STATIC = 1, ABSTRACT = 2, VARIED = 4;
    static final int NEW = 6;

    private Short() {
    }

    /** A new object with types 2, 3, .. of these parents. */
    static ReferenceRules types(int... parents) {
        ReferenceRules x = new ReferenceRules();
        for (int parent : parents) {
            x.type(parent);
        }
        return x;
    }

    /** A new object with all types, each below the one ahead of it. */
    static ReferenceRules lineOfTypes() {
        return types(0, 2, 3, 4, 5, 6, 7, 8);
    }

    /** A value of a STATIC member, which a reference TYPE::name finds for a face. */
    static int staticValue(ReferenceRules x, int t, int name, int result, int... arguments) {
        return x.make(x.reference(0, t, name), face(x, result, arguments), 0);
    }

    static void fillThings(ReferenceRules x, int upTo) {
        for (int i = x.count(4); i < upTo; i++) {
            x.box(0);
        }
    }

    static int row(int t) {
        return t == INT ? INTS : 20 + t;
    }

    static int member(ReferenceRules x, int t, int name, int result, int marks, int... parameters) {
        x.untell();
        tellAll(x, parameters);
        int made = x.member(t, name, result, marks);
        x.untell();
        return made;
    }

    static int face(ReferenceRules x, int result, int... arguments) {
        x.untell();
        tellAll(x, arguments);
        int made = x.face(result);
        x.untell();
        return made;
    }

    static int call(ReferenceRules x, int value, int... args) {
        for (int i = 0; i < args.length; i++) {
            x.arg(i, args[i]);
        }
        return x.call(value);
    }

    /** The result of a call that should be 1; a number that no test waits for, if it was not. */
    static int gives(ReferenceRules x, int value, int... args) {
        int answer = call(x, value, args);
        return answer == 1 ? x.result() : -700000 + answer;
    }

    private static void tellAll(ReferenceRules x, int[] types) {
        for (int t : types) {
            x.tell(t);
        }
    }
}
