import java.util.ArrayList;
import java.util.HashSet;
import java.util.List;
import java.util.Objects;
import java.util.Set;
import java.util.stream.Collectors;

/**
 * The document a second time, sentence by sentence and without regard to speed, for RandomRunsTest
 * to compare with. It shares no code and no way of holding things with the class.
 */
final class Model {
    private static final int BAD = -1, FULL = -2, STATE = -3, NONE = -4, TWO = -5, CLASH = -6, NULL = -21, SIZE = -22, PLAIN = 99;

    record Mem(int number, int type, int name, List<Integer> parameters, int result, boolean isStatic,
            boolean isAbstract, boolean varied) {
        boolean sameCall(Mem o) {
            return name == o.name && parameters.equals(o.parameters);
        }

        int place(int i) {
            int last = parameters.size() - 1;
            return i < last ? parameters.get(i) : part(parameters.get(last));
        }
    }

    record Fac(List<Integer> arguments, int result) {
    }

    record Ref(int form, int type, int name) {
    }

    record Val(Ref ref, Fac face, int receiver) {
    }

    record Found(List<Mem> fit, int phase, Mem found) {
        int answer() {
            return found != null ? found.number : fit.isEmpty() ? NONE : TWO;
        }
    }

    /** fault 0: a member, or PLAIN if it is null. */
    record Meant(int fault, Mem member, int phase, boolean second) {
    }

    static final class Thing {
        final int type;
        final int number;
        final int[] places;

        Thing(int type, int number, int[] places) {
            this.type = type;
            this.number = number;
            this.places = places;
        }
    }

    static final class Stop extends RuntimeException {
        private static final long serialVersionUID = 1L;
        final int why;

        Stop(int why) {
            super(null, null, false, false);
            this.why = why;
        }
    }

    private final List<Integer> parents = new ArrayList<>();
    private final List<Mem> members = new ArrayList<>();
    private final List<Fac> faces = new ArrayList<>();
    private final List<Ref> references = new ArrayList<>();
    private List<Thing> things = new ArrayList<>();
    private final List<Val> values = new ArrayList<>();
    private final List<Integer> traced = new ArrayList<>();
    private List<Integer> told = new ArrayList<>();
    private final int[] args = new int[3];
    private int result;
    private int failures;

    Model() {
        parents.add(null);
        parents.add(0);
    }

    static int part(int row) {
        return row == 30 ? 10 : row - 20;
    }

    private boolean isTold(int t) {
        return t >= 0 && t < parents.size();
    }

    private boolean isOwner(int t) {
        return t != 1 && isTold(t);
    }

    private boolean isRow(int t) {
        return t == 30 || t >= 20 && t <= 29 && isTold(t - 20);
    }

    private boolean isParameter(int t) {
        return isTold(t) || t == 10 || isRow(t);
    }

    private boolean isResult(int t) {
        return t == 11 || isParameter(t);
    }

    private boolean isUnder(int a, int b) {
        if (a == b) {
            return true;
        }
        if (a == 30) {
            return b == 0;
        }
        if (a >= 20) {
            return b == 0 || b >= 20 && b <= 29 && isUnder(a - 20, b - 20);
        }
        return a < 10 && parents.get(a) != null && isUnder(parents.get(a), b);
    }

    private boolean isLoose(int a, int b) {
        return isUnder(a, b) || a == 10 && isUnder(1, b) || a == 1 && b == 10;
    }

    int type(int parent) {
        if (!isOwner(parent)) {
            return BAD;
        }
        if (parents.size() == 10) {
            return FULL;
        }
        parents.add(parent);
        return parents.size() - 1;
    }

    int under(int a, int b) {
        return !isResult(a) || !isResult(b) ? BAD : isUnder(a, b) ? 1 : 0;
    }

    int loose(int a, int b) {
        return !isResult(a) || !isResult(b) ? BAD : isLoose(a, b) ? 1 : 0;
    }

    int tell(int t) {
        if (!isParameter(t)) {
            return BAD;
        }
        if (told.size() == 3) {
            return FULL;
        }
        told.add(t);
        return told.size();
    }

    int untell() {
        int were = told.size();
        told = new ArrayList<>();
        return were;
    }

    int member(int t, int name, int result, int marks) {
        if (!isOwner(t) || name < 0 || name > 6 || !isResult(result) || marks < 0 || marks > 7) {
            return BAD;
        }
        boolean isStatic = marks % 2 == 1;
        boolean isAbstract = marks / 2 % 2 == 1;
        boolean varied = marks / 4 == 1;
        if (varied && (told.isEmpty() || !isRow(told.get(told.size() - 1)))) {
            return BAD;
        }
        if (isStatic && isAbstract || isAbstract && t == 0) {
            return BAD;
        }
        if (name == 6 && (isStatic || isAbstract || result != t)) {
            return BAD;
        }
        if (!things.isEmpty() || !values.isEmpty()) {
            return STATE;
        }
        Mem made = new Mem(members.size(), t, name, List.copyOf(told), result, isStatic, isAbstract, varied);
        for (Mem o : members) {
            if (!o.sameCall(made)) {
                continue;
            }
            if (o.type == t) {
                return CLASH;
            }
            boolean line = isUnder(t, o.type) || isUnder(o.type, t);
            if (name != 6 && line && (o.isStatic || isStatic || o.result != result || o.varied != varied)) {
                return CLASH;
            }
        }
        if (members.size() == 40) {
            return FULL;
        }
        untell();
        members.add(made);
        return made.number;
    }

    /** What a TYPE, or a ROW, HAS, by numbers. */
    private List<Mem> had(int t) {
        Set<Integer> numbers = new HashSet<>();
        List<Mem> taken = new ArrayList<>();
        Integer at = t >= 20 ? Integer.valueOf(0) : Integer.valueOf(t);
        while (at != null) {
            List<Mem> here = new ArrayList<>();
            for (Mem m : members) {
                boolean isHidden = taken.stream().anyMatch(m::sameCall);
                if (m.type == at && (m.name != 6 || at == t) && (m.name == 6 || !isHidden)) {
                    here.add(m);
                }
            }
            taken.addAll(here);
            at = parents.get(at);
        }
        taken.forEach(m -> numbers.add(m.number));
        return members.stream().filter(m -> numbers.contains(m.number)).collect(Collectors.toList());
    }

    private List<Mem> hadNamed(int t, int name) {
        return had(t).stream().filter(m -> m.name == name).collect(Collectors.toList());
    }

    private boolean isOpen(int t) {
        return had(t).stream().anyMatch(Mem::isAbstract);
    }

    int has(int t, int i) {
        if (!isTold(t)) {
            return BAD;
        }
        List<Mem> all = had(t);
        return i >= 0 && i < all.size() ? all.get(i).number : NONE;
    }

    int open(int t) {
        return !isTold(t) ? BAD : isOpen(t) ? 1 : 0;
    }

    int face(int result) {
        if (!isResult(result)) {
            return BAD;
        }
        if (faces.size() == 10) {
            return FULL;
        }
        faces.add(new Fac(List.copyOf(told), result));
        untell();
        return faces.size() - 1;
    }

    int reference(int form, int t, int name) {
        boolean isGood = switch (form) {
            case 0, 1 -> isTold(t);
            case 2 -> isTold(t) && t != 0;
            case 3 -> isOwner(t);
            case 4 -> isTold(t) || t == 10;
            default -> false;
        };
        if (!isGood || form < 3 && (name < 0 || name > 5)) {
            return BAD;
        }
        if (references.size() == 30) {
            return FULL;
        }
        references.add(new Ref(form, t, name));
        return references.size() - 1;
    }

    private Found doSearch(int t, int name, List<Integer> arguments) {
        List<Mem> candidates = hadNamed(t, name);
        int n = arguments.size();
        for (int phase = 1; phase <= 3; phase++) {
            List<Mem> fit = new ArrayList<>();
            for (Mem m : candidates) {
                if (doesFit(m, arguments, phase)) {
                    fit.add(m);
                }
            }
            if (!fit.isEmpty()) {
                int p = phase;
                List<Mem> special = fit.stream()
                    .filter(m -> fit.stream().allMatch(o -> o == m || isMoreSpecial(m, o, n, p)))
                    .collect(Collectors.toList());
                return new Found(fit, phase, special.size() == 1 ? special.get(0) : null);
            }
        }
        return new Found(List.of(), 0, null);
    }

    private boolean doesFit(Mem m, List<Integer> arguments, int phase) {
        int n = arguments.size();
        if (phase < 3 && m.parameters.size() != n) {
            return false;
        }
        if (phase == 3 && (!m.varied || m.parameters.size() > n + 1)) {
            return false;
        }
        for (int i = 0; i < n; i++) {
            int a = arguments.get(i);
            boolean isGood = switch (phase) {
                case 1 -> isUnder(a, m.parameters.get(i));
                case 2 -> isLoose(a, m.parameters.get(i));
                default -> isLoose(a, m.place(i));
            };
            if (!isGood) {
                return false;
            }
        }
        return true;
    }

    private boolean isMoreSpecial(Mem m, Mem o, int n, int phase) {
        if (phase < 3) {
            for (int i = 0; i < n; i++) {
                if (!isUnder(m.parameters.get(i), o.parameters.get(i))) {
                    return false;
                }
            }
            return true;
        }
        int k = Math.max(n, Math.max(m.parameters.size(), o.parameters.size()));
        for (int i = 0; i < k; i++) {
            if (!isUnder(m.place(i), o.place(i))) {
                return false;
            }
        }
        return true;
    }

    private Found first(Ref r, Fac f) {
        int t = r.form == 2 ? parents.get(r.type) : r.type;
        return doSearch(t, r.form == 3 ? 6 : r.name, f.arguments);
    }

    private Found second(Ref r, Fac f) {
        if (f.arguments.isEmpty() || !isUnder(f.arguments.get(0), r.type)) {
            return new Found(List.of(), 0, null);
        }
        return doSearch(r.type, r.name, f.arguments.subList(1, f.arguments.size()));
    }

    private Meant means(Ref r, Fac f) {
        Meant m = meansButResult(r, f);
        if (m.fault == 0 && f.result != 11) {
            int comes = r.form == 4 ? (r.type == 10 ? 30 : 20 + r.type) : r.form == 3 ? r.type : m.member.result;
            if (!isLoose(comes, f.result)) {
                return new Meant(5, null, 0, false);
            }
        }
        return m;
    }

    private Meant meansButResult(Ref r, Fac f) {
        if (r.form == 0) {
            return meansOfBoth(first(r, f), second(r, f));
        }
        if (r.form == 4) {
            boolean isGood = f.arguments.size() == 1 && isLoose(f.arguments.get(0), 10);
            return new Meant(isGood ? 0 : 1, null, 0, false);
        }
        if (r.form == 3) {
            if (isOpen(r.type)) {
                return new Meant(4, null, 0, false);
            }
            if (hadNamed(r.type, 6).isEmpty()) {
                return new Meant(f.arguments.isEmpty() ? 0 : 1, null, 0, false);
            }
        }
        Found one = first(r, f);
        if (one.found == null) {
            return new Meant(one.fit.isEmpty() ? 1 : 2, null, 0, false);
        }
        if (r.form != 3 && one.found.isStatic) {
            return new Meant(3, null, 0, false);
        }
        if (r.form == 2 && one.found.isAbstract) {
            return new Meant(4, null, 0, false);
        }
        return new Meant(0, one.found, one.phase, false);
    }

    private Meant meansOfBoth(Found one, Found two) {
        boolean oneHasStatic = one.fit.stream().anyMatch(Mem::isStatic);
        boolean twoStaticOnly = two.fit.stream().allMatch(Mem::isStatic);
        if (one.found != null && one.found.isStatic && twoStaticOnly) {
            return new Meant(0, one.found, one.phase, false);
        }
        if (two.found != null && !two.found.isStatic && !oneHasStatic) {
            return new Meant(0, two.found, two.phase, true);
        }
        if (one.fit.isEmpty() && two.fit.isEmpty()) {
            return new Meant(1, null, 0, false);
        }
        return new Meant(!oneHasStatic && twoStaticOnly ? 3 : 2, null, 0, false);
    }

    private static boolean isIn(int i, List<?> list) {
        return i >= 0 && i < list.size();
    }

    int meant(int reference, int face) {
        if (!isIn(reference, references) || !isIn(face, faces)) {
            return BAD;
        }
        Meant m = means(references.get(reference), faces.get(face));
        return m.fault != 0 ? -10 - m.fault : m.member == null ? PLAIN : m.member.number;
    }

    private Object searchOrRefusal(int reference, int face, int which) {
        if (!isIn(reference, references) || !isIn(face, faces)) {
            return BAD;
        }
        Ref r = references.get(reference);
        if (r.form == 4 || which != 1 && !(which == 2 && r.form == 0)) {
            return BAD;
        }
        if (r.form == 3 && (isOpen(r.type) || hadNamed(r.type, 6).isEmpty())) {
            return STATE;
        }
        return which == 1 ? first(r, faces.get(face)) : second(r, faces.get(face));
    }

    int search(int reference, int face, int which) {
        Object o = searchOrRefusal(reference, face, which);
        return o instanceof Found f ? f.answer() : (Integer) o;
    }

    int phase(int reference, int face, int which) {
        Object o = searchOrRefusal(reference, face, which);
        return o instanceof Found f ? f.phase : (Integer) o;
    }

    int exact(int reference) {
        if (!isIn(reference, references)) {
            return BAD;
        }
        Ref r = references.get(reference);
        if (r.form == 4) {
            return 1;
        }
        List<Mem> all = hadNamed(r.form == 2 ? parents.get(r.type) : r.type, r.form == 3 ? 6 : r.name);
        if (all.isEmpty()) {
            return r.form == 3 ? 1 : 0;
        }
        return all.size() == 1 && !all.get(0).varied ? 1 : 0;
    }

    private int add(int type, int number, int places) {
        if (things.size() == 60) {
            throw new Stop(FULL);
        }
        things.add(new Thing(type, number, new int[places]));
        return things.size();
    }

    private Thing get(int thing) {
        return thing >= 1 && thing <= things.size() ? things.get(thing - 1) : null;
    }

    int thing(int t) {
        if (!isOwner(t)) {
            return BAD;
        }
        if (isOpen(t)) {
            return STATE;
        }
        return things.size() == 60 ? FULL : add(t, 0, 0);
    }

    int box(int v) {
        return things.size() == 60 ? FULL : add(1, v, 0);
    }

    int of(int thing, int what) {
        Thing o = get(thing);
        if (o == null || what != 0 && what != 1) {
            return BAD;
        }
        return what == 0 ? o.type : o.type == 1 ? o.number : o.places.length;
    }

    int place(int row, int i) {
        Thing o = get(row);
        return o == null || o.type < 20 || i < 0 || i >= o.places.length ? BAD : o.places[i];
    }

    int make(int reference, int face, int receiver) {
        if (!isIn(reference, references) || !isIn(face, faces)) {
            return BAD;
        }
        Ref r = references.get(reference);
        Fac f = faces.get(face);
        boolean takesOne = r.form == 1 || r.form == 2;
        if (receiver != 0 && (!takesOne || get(receiver) == null || !isUnder(get(receiver).type, r.type))) {
            return BAD;
        }
        if (means(r, f).fault != 0) {
            return STATE;
        }
        if (takesOne && receiver == 0) {
            failures += r.form == 1 ? 1 : 0;
            return r.form == 1 ? NULL : BAD;
        }
        if (values.size() == 30) {
            return FULL;
        }
        values.add(new Val(r, f, receiver));
        return values.size() - 1;
    }

    int arg(int i, int v) {
        if (i < 0 || i > 2) {
            return BAD;
        }
        args[i] = v;
        return 1;
    }

    int call(int value) {
        if (!isIn(value, values)) {
            return BAD;
        }
        Val v = values.get(value);
        for (int i = 0; i < v.face.arguments.size(); i++) {
            int t = v.face.arguments.get(i);
            if (t != 10 && args[i] != 0 && (get(args[i]) == null || !isUnder(get(args[i]).type, t))) {
                return BAD;
            }
        }
        List<Thing> before = new ArrayList<>(things);
        int tracedBefore = traced.size();
        try {
            result = perform(v);
            return 1;
        } catch (Stop s) {
            things = before;
            while (traced.size() > tracedBefore) {
                traced.remove(traced.size() - 1);
            }
            failures += s.why == FULL ? 0 : 1;
            return s.why;
        }
    }

    private int perform(Val v) {
        Meant meant = means(v.ref, v.face);
        if (meant.member != null) {
            return performMember(v, meant);
        }
        if (v.ref.form == 3) {
            int made = add(v.ref.type, 0, 0);
            return v.face.result == 11 ? 0 : made;
        }
        int size = pass(args[0], v.face.arguments.get(0), 10);
        if (size < 0) {
            throw new Stop(SIZE);
        }
        if (size > 20) {
            throw new Stop(FULL);
        }
        int made = add(v.ref.type == 10 ? 30 : 20 + v.ref.type, 0, size);
        return v.face.result == 11 ? 0 : made;
    }

    private int performMember(Val v, Meant meant) {
        List<Integer> types = new ArrayList<>(v.face.arguments);
        List<Integer> given = new ArrayList<>();
        for (int i = 0; i < types.size(); i++) {
            given.add(args[i]);
        }
        Mem m = meant.member;
        int receiver = v.receiver;
        if (meant.second) {
            receiver = given.remove(0);
            types.remove(0);
            if (receiver == 0) {
                throw new Stop(NULL);
            }
        }
        if (meant.second || v.ref.form == 1) {
            m = had(get(receiver).type).stream().filter(meant.member::sameCall).findFirst().orElseThrow();
        }
        List<Integer> got = new ArrayList<>();
        int alone = meant.phase == 3 ? m.parameters.size() - 1 : m.parameters.size();
        for (int i = 0; i < alone; i++) {
            got.add(pass(given.get(i), types.get(i), m.parameters.get(i)));
        }
        if (meant.phase == 3) {
            int kind = m.parameters.get(alone);
            int row = add(kind, 0, given.size() - alone);
            for (int i = alone; i < given.size(); i++) {
                get(row).places[i - alone] = pass(given.get(i), types.get(i), part(kind));
            }
            got.add(row);
        }
        traced.add(m.number);
        return forFace(doMember(m, got), m.result, v.face.result);
    }

    private int pass(int arg, int type, int wanted) {
        if (type == 10 && wanted != 10) {
            return add(1, arg, 0);
        }
        if (type != 10 && wanted == 10) {
            if (arg == 0) {
                throw new Stop(NULL);
            }
            return Objects.requireNonNull(get(arg)).number;
        }
        return arg;
    }

    private int doMember(Mem m, List<Integer> got) {
        int v = 100 * m.number;
        for (int i = 0; i < got.size(); i++) {
            int p = m.parameters.get(i);
            if (p == 10) {
                v += got.get(i);
            } else if (p == 1 && got.get(i) != 0) {
                v += get(got.get(i)).number;
            }
        }
        if (m.varied && m.parameters.get(m.parameters.size() - 1) == 30 && got.get(got.size() - 1) != 0) {
            for (int place : get(got.get(got.size() - 1)).places) {
                v += place;
            }
        }
        if (m.result == 10) {
            return v;
        }
        if (m.result == 11) {
            return 0;
        }
        if (m.result == 1) {
            return add(1, v, 0);
        }
        if (m.result >= 20) {
            return add(m.result, 0, m.parameters.size());
        }
        return isOpen(m.result) ? 0 : add(m.result, 0, 0);
    }

    private int forFace(int came, int result, int wanted) {
        if (wanted == 11) {
            return 0;
        }
        if (result == 10 && wanted != 10) {
            return add(1, came, 0);
        }
        return result == 1 && wanted == 10 ? get(came).number : came;
    }

    int result() {
        return result;
    }

    int traced(int i) {
        List<Integer> kept = traced.subList(Math.max(0, traced.size() - 50), traced.size());
        return isIn(i, kept) ? kept.get(i) : NONE;
    }

    int count(int what) {
        int[] counts = {parents.size(), members.size(), faces.size(), references.size(), things.size(), values.size(), failures};
        return what >= 0 && what < counts.length ? counts[what] : BAD;
    }

    int clear() {
        int were = things.size();
        things.clear();
        values.clear();
        traced.clear();
        args[0] = 0;
        args[1] = 0;
        args[2] = 0;
        result = 0;
        return were;
    }
}
