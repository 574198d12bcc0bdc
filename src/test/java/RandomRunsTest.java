import java.util.ArrayList;
import java.util.List;
import java.util.Map;
import java.util.Random;
import java.util.TreeMap;

/** Random runs of calls (the same ones each time): the class must answer as the Model does, and never throw. */
public final class RandomRunsTest {
    private static final int RUNS = 2000, CALLS = 512;
    private static final int[] TYPES = {0, 1, 2, 3, 4, 5, 10, 20, 21, 22, 23, 30};
    private static final int[] EDGES = {-1, 6, 9, 11, 12, 19, 29, 31, 61, Integer.MIN_VALUE, Integer.MAX_VALUE};

    private final Random random;
    private final ReferenceRules x = new ReferenceRules();
    private final Model model = new Model();
    private final List<String> calls = new ArrayList<>();
    private final Map<String, Integer> seen;

    private RandomRunsTest(long seed, Map<String, Integer> seen) {
        this.random = new Random(seed);
        this.seen = seen;
    }

    public static void main(String[] args) {
        Map<String, Integer> seen = new TreeMap<>();
        for (int run = 0; run < RUNS; run++) {
            RandomRunsTest test = new RandomRunsTest(run, seen);
            if (!test.run()) {
                System.out.println("run " + run + " went wrong; its last calls:");
                int from = Math.max(0, test.calls.size() - 60);
                test.calls.subList(from, test.calls.size()).forEach(System.out::println);
                System.exit(1);
            }
        }
        if (isAnswerMissing(seen)) {
            System.exit(1);
        }
        System.out.println(RUNS + " runs, all answers as the model's");
    }

    /** Runs that never come to an answer would tell nothing of it. */
    private static boolean isAnswerMissing(Map<String, Integer> seen) {
        String[] wanted = {"type -1", "type -2", "tell -1", "tell -2", "member -1", "member -2", "member -3", "member -6",
            "has -1", "has -4", "open 1", "face -1", "face -2", "reference -1", "reference -2", "meant -1", "meant -11",
            "meant -12", "meant -13", "meant -14", "meant -15", "meant 99", "search -1", "search -3", "search -4",
            "search -5", "phase 0", "phase 1", "phase 2", "phase 3", "exact 0", "exact 1", "exact -1", "thing -1",
            "thing -2", "thing -3", "box -2", "of -1", "place -1", "make -1", "make -2", "make -3", "make -21", "arg -1",
            "call -1", "call -2", "call -21", "call -22", "call 1", "traced -4", "count -1"};
        boolean isMissing = false;
        for (String answer : wanted) {
            if (!seen.containsKey(answer)) {
                System.out.println("no run came to " + answer);
                isMissing = true;
            }
        }
        return isMissing;
    }

    private boolean run() {
        int types = random.nextInt(9);
        int members = 10 + random.nextInt(220);
        int faces = members + 30 + random.nextInt(100);
        for (int i = 0; i < CALLS; i++) {
            boolean isGood;
            if (i < types) {
                isGood = type();
            } else if (i < members && random.nextInt(20) != 0) {
                isGood = memberStep();
            } else if (i < faces && random.nextInt(20) != 0) {
                isGood = faceStep();
            } else {
                isGood = random.nextInt(12) == 0 ? anyStep() : valueStep();
            }
            if (!isGood) {
                return false;
            }
        }
        return true;
    }

    private int pick(int... from) {
        return from[random.nextInt(from.length)];
    }

    private int small(int below) {
        return random.nextInt(40) == 0 ? pick(EDGES) : random.nextInt(Math.max(1, below));
    }

    private int someType() {
        return random.nextInt(60) == 0 ? pick(EDGES) : random.nextInt(6) == 0 ? 10 : pick(TYPES);
    }

    private int owner() {
        return random.nextInt(30) == 0 ? pick(EDGES) : random.nextInt(Math.max(1, model.count(0)));
    }

    private boolean same(String name, int got, int due, int... with) {
        StringBuilder call = new StringBuilder(name).append('(');
        for (int i = 0; i < with.length; i++) {
            call.append(i == 0 ? "" : ", ").append(with[i]);
        }
        calls.add(call.append(") = ").append(got).append(got == due ? "" : ", due is " + due).toString());
        seen.merge(name + " " + due, 1, Integer::sum);
        return got == due;
    }

    private boolean type() {
        int p = random.nextInt(3) == 0 ? 0 : owner();
        return same("type", x.type(p), model.type(p), p);
    }

    private boolean tell() {
        int t = someType();
        return same("tell", x.tell(t), model.tell(t), t);
    }

    private boolean memberStep() {
        if (random.nextInt(2) == 0) {
            return tell();
        }
        int t = owner();
        int name = random.nextInt(5) == 0 ? 6 : random.nextInt(30) == 0 ? small(8) : random.nextInt(3);
        int result = name == 6 && random.nextInt(10) != 0 ? t : random.nextInt(8) == 0 ? 11 : someType();
        int marks = random.nextInt(30) == 0 ? small(9) : pick(0, 0, 0, 1, 1, 4, 4, 5, 2, 6);
        if (name == 6 && random.nextInt(10) != 0) {
            marks &= 4;
        }
        return same("member", x.member(t, name, result, marks), model.member(t, name, result, marks), t, name, result, marks);
    }

    private boolean faceStep() {
        int r = random.nextInt(7);
        if (r < 3) {
            return tell();
        }
        if (r == 3) {
            int result = random.nextInt(2) == 0 ? 11 : someType();
            return same("face", x.face(result), model.face(result), result);
        }
        return reference();
    }

    private boolean reference() {
        int form = small(5);
        int t = form == 4 && random.nextInt(3) == 0 ? 10 : owner();
        int name = random.nextInt(20) == 0 ? small(8) : random.nextInt(3);
        return same("reference", x.reference(form, t, name), model.reference(form, t, name), form, t, name);
    }

    private boolean valueStep() {
        int r = small(model.count(3));
        int f = small(model.count(2));
        switch (random.nextInt(12)) {
            case 0:
                return same("meant", x.meant(r, f), model.meant(r, f), r, f);
            case 1:
                int s = pick(1, 1, 2, 2, 0, 3);
                return same("search", x.search(r, f, s), model.search(r, f, s), r, f, s);
            case 2:
                int p = pick(1, 1, 2, 2, 0, 3);
                return same("phase", x.phase(r, f, p), model.phase(r, f, p), r, f, p);
            case 3:
            case 4:
                return make(r, f);
            case 5:
            case 6:
                int i = small(3);
                int v = random.nextInt(5) == 0 ? pick(-3, 21, 20, Integer.MAX_VALUE, Integer.MIN_VALUE) : random.nextInt(model.count(4) + 1);
                return same("arg", x.arg(i, v), model.arg(i, v), i, v);
            case 7:
                int t = owner();
                return same("thing", x.thing(t), model.thing(t), t);
            case 8:
                int b = pick(-1, 0, 1, 2, 3, 20, 21, random.nextInt());
                return same("box", x.box(b), model.box(b), b);
            default:
                return call();
        }
    }

    private boolean make(int r, int f) {
        for (int tries = 0; tries < 20 && model.meant(r, f) < 0; tries++) {
            r = small(model.count(3));
            f = small(model.count(2));
        }
        int receiver = random.nextInt(3) == 0 ? random.nextInt(model.count(4) + 1) : 0;
        for (int thing = 1; thing <= model.count(4) && random.nextInt(4) != 0; thing++) {
            receiver = random.nextInt(3) == 0 ? thing : receiver;
        }
        return same("make", x.make(r, f, receiver), model.make(r, f, receiver), r, f, receiver);
    }

    private boolean call() {
        int v = small(model.count(5));
        boolean isGood = same("call", x.call(v), model.call(v), v) && same("result", x.result(), model.result());
        if (!isGood) {
            return false;
        }
        return isStateAlike();
    }

    /** What the calls that only look tell of all that is there. */
    private boolean isStateAlike() {
        for (int what = 0; what <= 6; what++) {
            if (!isAlike("count", x.count(what), model.count(what), what)) {
                return false;
            }
        }
        for (int i = 0; i <= 50; i++) {
            if (!isAlike("traced", x.traced(i), model.traced(i), i)) {
                return false;
            }
        }
        for (int thing = 0; thing <= 61; thing++) {
            if (!isAlike("type of", x.of(thing, 0), model.of(thing, 0), thing)
                    || !isAlike("amount of", x.of(thing, 1), model.of(thing, 1), thing)) {
                return false;
            }
            for (int i = 0; i < 4; i++) {
                if (!isAlike("place " + i, x.place(thing, i), model.place(thing, i), thing)) {
                    return false;
                }
            }
        }
        return true;
    }

    private boolean isAlike(String name, int got, int due, int with) {
        return got == due || same(name, got, due, with);
    }

    private boolean anyStep() {
        int a = someType();
        int b = someType();
        int n = small(62);
        int i = small(21);
        switch (random.nextInt(16)) {
            case 0:
                return same("under", x.under(a, b), model.under(a, b), a, b);
            case 1:
                return same("loose", x.loose(a, b), model.loose(a, b), a, b);
            case 2:
                return same("untell", x.untell(), model.untell());
            case 3:
            case 4:
                int t = small(11);
                return same("has", x.has(t, i), model.has(t, i), t, i);
            case 5:
                return same("open", x.open(a), model.open(a), a);
            case 6:
                int r = small(30);
                return same("exact", x.exact(r), model.exact(r), r);
            case 7:
                int what = small(3);
                return same("of", x.of(n, what), model.of(n, what), n, what);
            case 8:
                return same("place", x.place(n, i), model.place(n, i), n, i);
            case 9:
                return same("traced", x.traced(n), model.traced(n), n);
            case 10:
                int c = small(8);
                return same("count", x.count(c), model.count(c), c);
            case 11:
                return random.nextInt(4) != 0 || same("clear", x.clear(), model.clear());
            case 12:
                return type();
            case 13:
                return memberStep();
            default:
                return faceStep();
        }
    }
}
