/**
 * References to members as a language of classes has them: which member one means for a function
 * face, and what happens when a value made of it is called. The numbered promises that this class
 * keeps stand in the project's document; the words in capitals are that document's.
 */
public final class ReferenceRules {
    public static final int BAD = -1, FULL = -2, STATE = -3, NONE = -4, TWO = -5, CLASH = -6, NULL = -21, SIZE = -22, PLAIN = 99;

    private static final int ANY = 0, BOX = 1, INT = 10, VOID = 11, ROWS = 20, ROW_OF_INTS = 30;
    private static final int NO_TYPE = -1;

    private static final int MAKER = 6;
    private static final int STATIC = 1, ABSTRACT = 2, VARIED = 4, ALL_MARKS = 7;

    private static final int TYPE_NAME = 0, VALUE_NAME = 1, SUPER_NAME = 2, TYPE_NEW = 3, ROW_NEW = 4;
    private static final int FAULT_NONE = 1, FAULT_TWO = 2, FAULT_STATIC = 3, FAULT_ABSTRACT = 4, FAULT_RESULT = 5;

    private static final int MOST_TYPES = 10, MOST_MEMBERS = 40, MOST_PARAMETERS = 3, MOST_FACES = 10;
    private static final int MOST_REFERENCES = 30, MOST_THINGS = 60, MOST_VALUES = 30;
    private static final int MOST_PLACES = 20, MOST_TRACED = 50;

    private final Types types = new Types();
    private final Members members = new Members(types);
    private final Meaning meaning = new Meaning(types, members);
    private final Things things = new Things();
    private final Caller caller = new Caller(members, things);
    private final Trace trace = new Trace();

    private final int[] told = new int[MOST_PARAMETERS];
    private int toldCount;
    private final Face[] faces = new Face[MOST_FACES];
    private int faceCount;
    private final Reference[] references = new Reference[MOST_REFERENCES];
    private int referenceCount;
    private final Value[] values = new Value[MOST_VALUES];
    private int valueCount;

    private final int[] args = new int[MOST_PARAMETERS];
    private int latestResult;
    private int failures;

    public ReferenceRules() {
    }

    // ---- types

    public int type(int parent) {
        if (!types.isOwner(parent)) {
            return BAD;
        }
        int t = types.add(parent);
        members.inherit(t, parent);
        return t;
    }

    public int under(int a, int b) {
        if (!types.isAnyType(a) || !types.isAnyType(b)) {
            return BAD;
        }
        return types.isUnder(a, b) ? 1 : 0;
    }

    public int loose(int a, int b) {
        if (!types.isAnyType(a) || !types.isAnyType(b)) {
            return BAD;
        }
        return types.isLoose(a, b) ? 1 : 0;
    }

    public int tell(int t) {
        if (!types.isParameter(t)) {
            return BAD;
        }
        if (toldCount >= MOST_PARAMETERS) {
            return FULL;
        }
        told[toldCount] = t;
        toldCount++;
        return toldCount;
    }

    public int untell() {
        int were = toldCount;
        toldCount = 0;
        return were;
    }

    public int member(int t, int name, int result, int marks) {
        if (!isMemberHead(t, name, result, marks) || !areMarksAllowed(t, name, marks)) {
            return BAD;
        }
        if (things.size() > 0 || valueCount > 0) {
            return STATE;
        }
        Member made = new Member(members.size(), t, name, result, marks, copyOfTold());
        if (members.clashes(made)) {
            return CLASH;
        }
        if (members.isFull()) {
            return FULL;
        }
        toldCount = 0;
        return members.add(made);
    }

    public int has(int t, int i) {
        if (!types.isClass(t)) {
            return BAD;
        }
        return members.numberOfHad(t, i);
    }

    public int open(int t) {
        if (!types.isClass(t)) {
            return BAD;
        }
        return members.isOpen(t) ? 1 : 0;
    }

    private boolean isMemberHead(int t, int name, int result, int marks) {
        return types.isOwner(t)
            && name >= 0 && name <= MAKER
            && types.isAnyType(result)
            && marks >= 0 && marks <= ALL_MARKS
            && (name != MAKER || result == t);
    }

    private boolean areMarksAllowed(int t, int name, int marks) {
        boolean isStatic = (marks & STATIC) != 0;
        boolean isAbstract = (marks & ABSTRACT) != 0;
        if ((marks & VARIED) != 0 && !isLastToldRow()) {
            return false;
        }
        if (name == MAKER && (isStatic || isAbstract)) {
            return false;
        }
        return !isAbstract || !isStatic && t != ANY;
    }

    private boolean isLastToldRow() {
        return toldCount > 0 && types.isRow(told[toldCount - 1]);
    }

    private int[] copyOfTold() {
        int[] copy = new int[toldCount];
        System.arraycopy(told, 0, copy, 0, toldCount);
        return copy;
    }

    // ---- references

    public int face(int result) {
        if (!types.isAnyType(result)) {
            return BAD;
        }
        if (faceCount >= MOST_FACES) {
            return FULL;
        }
        faces[faceCount] = new Face(copyOfTold(), result);
        toldCount = 0;
        faceCount++;
        return faceCount - 1;
    }

    public int reference(int form, int t, int name) {
        if (!isFormOfType(form, t) || form <= SUPER_NAME && (name < 0 || name >= MAKER)) {
            return BAD;
        }
        if (referenceCount >= MOST_REFERENCES) {
            return FULL;
        }
        references[referenceCount] = new Reference(form, t, form == TYPE_NEW ? MAKER : name);
        referenceCount++;
        return referenceCount - 1;
    }

    public int meant(int reference, int face) {
        if (!isReference(reference) || !isFace(face)) {
            return BAD;
        }
        return meaning.find(references[reference], faces[face]);
    }

    public int search(int reference, int face, int which) {
        int refusal = searchRefusal(reference, face, which);
        if (refusal != 0) {
            return refusal;
        }
        return meaning.runSearch(references[reference], faces[face], which).answer();
    }

    public int phase(int reference, int face, int which) {
        int refusal = searchRefusal(reference, face, which);
        if (refusal != 0) {
            return refusal;
        }
        return meaning.runSearch(references[reference], faces[face], which).phaseOfFit;
    }

    public int exact(int reference) {
        if (!isReference(reference)) {
            return BAD;
        }
        return meaning.namesOneAlone(references[reference]) ? 1 : 0;
    }

    private boolean isReference(int reference) {
        return reference >= 0 && reference < referenceCount;
    }

    private boolean isFace(int face) {
        return face >= 0 && face < faceCount;
    }

    private boolean isFormOfType(int form, int t) {
        switch (form) {
            case TYPE_NAME:
            case VALUE_NAME:
                return types.isClass(t);
            case SUPER_NAME:
                return types.isClass(t) && t != ANY;
            case TYPE_NEW:
                return types.isOwner(t);
            case ROW_NEW:
                return types.isClass(t) || t == INT;
            default:
                return false;
        }
    }

    private int searchRefusal(int reference, int face, int which) {
        if (!isReference(reference) || !isFace(face)) {
            return BAD;
        }
        Reference r = references[reference];
        int searches = r.form == ROW_NEW ? 0 : r.form == TYPE_NAME ? 2 : 1;
        if (which < 1 || which > searches) {
            return BAD;
        }
        if (r.form == TYPE_NEW && (members.isOpen(r.type) || !members.hasMaker(r.type))) {
            return STATE;
        }
        return 0;
    }

    // ---- things, values

    public int thing(int t) {
        if (!types.isOwner(t)) {
            return BAD;
        }
        if (members.isOpen(t)) {
            return STATE;
        }
        return things.add(t, 0);
    }

    public int box(int v) {
        return things.add(BOX, v);
    }

    public int of(int thing, int what) {
        if (!things.isThing(thing) || what < 0 || what > 1) {
            return BAD;
        }
        return what == 0 ? things.kindOf(thing) : things.amountOf(thing);
    }

    public int place(int row, int i) {
        if (!things.isThing(row) || !types.isRow(things.kindOf(row)) || i < 0 || i >= things.amountOf(row)) {
            return BAD;
        }
        return things.placeOf(row, i);
    }

    public int make(int reference, int face, int receiver) {
        if (!isReference(reference) || !isFace(face) || !isReceiver(references[reference], receiver)) {
            return BAD;
        }
        Reference r = references[reference];
        Face f = faces[face];
        if (meaning.find(r, f) < 0) {
            return STATE;
        }
        if (receiver == 0 && r.form == VALUE_NAME) {
            failures++;
            return NULL;
        }
        if (receiver == 0 && r.form == SUPER_NAME) {
            return BAD;
        }
        if (valueCount >= MOST_VALUES) {
            return FULL;
        }
        values[valueCount] = new Value(r, f, receiver, meaning);
        valueCount++;
        return valueCount - 1;
    }

    public int arg(int i, int v) {
        if (i < 0 || i >= MOST_PARAMETERS) {
            return BAD;
        }
        args[i] = v;
        return 1;
    }

    public int call(int value) {
        if (value < 0 || value >= valueCount || !doArgsSuit(values[value].face)) {
            return BAD;
        }
        int stop = caller.run(values[value], args);
        if (stop == NULL || stop == SIZE) {
            failures++;
        }
        if (stop != 0) {
            return stop;
        }
        if (caller.called != null) {
            trace.add(caller.called.number);
        }
        latestResult = caller.outcome;
        return 1;
    }

    public int result() {
        return latestResult;
    }

    public int traced(int i) {
        return trace.at(i);
    }

    public int count(int what) {
        switch (what) {
            case 0:
                return types.size();
            case 1:
                return members.size();
            case 2:
                return faceCount;
            case 3:
                return referenceCount;
            case 4:
                return things.size();
            case 5:
                return valueCount;
            case 6:
                return failures;
            default:
                return BAD;
        }
    }

    public int clear() {
        int were = things.size();
        things.keepFirst(0);
        for (int i = 0; i < valueCount; i++) {
            values[i] = null;
        }
        valueCount = 0;
        trace.forget();
        for (int i = 0; i < MOST_PARAMETERS; i++) {
            args[i] = 0;
        }
        latestResult = 0;
        return were;
    }

    /** NULL passes here for both forms that take a receiver: make() refuses it behind STATE. */
    private boolean isReceiver(Reference r, int receiver) {
        if (receiver == 0) {
            return true;
        }
        return (r.form == VALUE_NAME || r.form == SUPER_NAME) && isThingUnder(receiver, r.type);
    }

    private boolean isThingUnder(int thing, int t) {
        return things.isThing(thing) && types.isUnder(things.kindOf(thing), t);
    }

    private boolean doArgsSuit(Face face) {
        for (int i = 0; i < face.arguments.length; i++) {
            int t = face.arguments[i];
            if (t != INT && args[i] != 0 && !isThingUnder(args[i], t)) {
                return false;
            }
        }
        return true;
    }

    /**
     * ANY, BOX, the TYPES that were told, and the types that are made of them. A type's number is
     * below 31, so all that one is UNDER stands in the bits of an int; what is no type has none.
     */
    private static final class Types {
        private final int[] parents = new int[MOST_TYPES];
        private final int[] above = new int[ROW_OF_INTS + 1];
        private int count;

        Types() {
            parents[ANY] = NO_TYPE;
            parents[BOX] = ANY;
            count = 2;
            above[ANY] = bit(ANY);
            above[BOX] = bit(BOX) | bit(ANY);
            above[INT] = bit(INT);
            above[VOID] = bit(VOID);
            above[ROWS + ANY] = bit(ROWS + ANY) | bit(ANY);
            above[ROWS + BOX] = bit(ROWS + BOX) | above[ROWS + ANY];
            above[ROW_OF_INTS] = bit(ROW_OF_INTS) | bit(ANY);
        }

        private static int bit(int t) {
            return 1 << t;
        }

        int size() {
            return count;
        }

        int add(int parent) {
            if (count >= MOST_TYPES || !isClass(parent)) {
                return FULL;
            }
            int t = count;
            parents[t] = parent;
            above[t] = bit(t) | above[parent];
            above[ROWS + t] = bit(ROWS + t) | above[ROWS + parent];
            count++;
            return t;
        }

        boolean isClass(int t) {
            return t >= 0 && t < count;
        }

        /** BOX alone among the TYPES has no MEMBERS, no MAKERS and no TYPES of its own below it. */
        boolean isOwner(int t) {
            return isClass(t) && t != BOX;
        }

        boolean isAnyType(int t) {
            return t >= 0 && t <= ROW_OF_INTS && above[t] != 0;
        }

        boolean isParameter(int t) {
            return isAnyType(t) && t != VOID;
        }

        boolean isRow(int t) {
            return isAnyType(t) && t >= ROWS;
        }

        int parentOf(int t) {
            return isClass(t) ? parents[t] : NO_TYPE;
        }

        boolean isUnder(int a, int b) {
            return a >= 0 && a <= ROW_OF_INTS && b >= 0 && b <= ROW_OF_INTS && (above[a] >> b & 1) != 0;
        }

        boolean isLoose(int a, int b) {
            return isUnder(a, b)
                || a == INT && isUnder(BOX, b)
                || a == BOX && b == INT;
        }
    }

    private static final class Member {
        private final int number;
        private final int owner;
        private final int name;
        private final int result;
        private final int marks;
        private final int[] parameters;
        private final int signature;

        Member(int number, int owner, int name, int result, int marks, int[] parameters) {
            this.number = number;
            this.owner = owner;
            this.name = name;
            this.result = result;
            this.marks = marks;
            this.parameters = parameters;
            this.signature = signatureOf(name, parameters);
        }

        /** NAME and PARAMETERS in one number, since they are compared again and again. */
        private static int signatureOf(int name, int[] parameters) {
            int signature = name;
            for (int i = 0; i < MOST_PARAMETERS; i++) {
                int digit = i < parameters.length ? parameters[i] + 1 : 0;
                signature = signature * 32 + digit;
            }
            return signature;
        }

        boolean isStatic() {
            return (marks & STATIC) != 0;
        }

        boolean isAbstract() {
            return (marks & ABSTRACT) != 0;
        }

        boolean isVaried() {
            return (marks & VARIED) != 0;
        }

        /** What PLACE i wants: in PHASE 3 the last PARAMETER's PART stands there again and again. */
        int typeAt(int i, int phase) {
            int last = parameters.length - 1;
            if (i < 0 || last < 0) {
                return NO_TYPE;
            }
            if (phase == 3 && i >= last) {
                return parameters[last] == ROW_OF_INTS ? INT : parameters[last] - ROWS;
            }
            return i <= last ? parameters[i] : NO_TYPE;
        }

        /** Whether one of the same NAME and PARAMETERS may stand in a TYPE above or below. */
        boolean agreesWith(Member other) {
            return !isStatic() && !other.isStatic() && result == other.result && isVaried() == other.isVaried();
        }
    }

    /** The MEMBERS. A set of them is a long with a bit for each, as there are 40 at most. */
    private static final class Members {
        private final Types types;
        private final Member[] all = new Member[MOST_MEMBERS];
        private int count;
        private final long[] had = new long[MOST_TYPES];
        private final long[] named = new long[MAKER + 1];
        private long statics;
        private long abstracts;
        private long varied;

        Members(Types types) {
            this.types = types;
        }

        int size() {
            return count;
        }

        boolean isFull() {
            return count >= MOST_MEMBERS;
        }

        /** A new TYPE HAS at first what its PARENT HAS, but the MAKERS. */
        void inherit(int t, int parent) {
            if (types.isClass(t) && types.isClass(parent)) {
                had[t] = had[parent] & ~named[MAKER];
            }
        }

        int add(Member made) {
            if (isFull()) {
                return FULL;
            }
            all[count] = made;
            count++;
            long bit = 1L << made.number;
            named[made.name] |= bit;
            statics |= made.isStatic() ? bit : 0;
            abstracts |= made.isAbstract() ? bit : 0;
            varied |= made.isVaried() ? bit : 0;
            for (int t = 0; t < types.size(); t++) {
                if (t == made.owner || made.name != MAKER && types.isUnder(t, made.owner)) {
                    putInto(t, made);
                }
            }
            return made.number;
        }

        /** It hides one from above, and stays hidden behind one from below. */
        private void putInto(int t, Member made) {
            for (int i = 0; i < made.number; i++) {
                if (all[i].signature == made.signature && isIn(had[t], i)) {
                    if (types.isUnder(all[i].owner, made.owner)) {
                        return;
                    }
                    had[t] &= ~(1L << i);
                }
            }
            had[t] |= 1L << made.number;
        }

        boolean clashes(Member made) {
            for (int i = 0; i < count; i++) {
                if (all[i].signature == made.signature && clashesWith(made, all[i])) {
                    return true;
                }
            }
            return false;
        }

        private boolean clashesWith(Member made, Member other) {
            if (made.owner == other.owner) {
                return true;
            }
            boolean inLine = types.isUnder(made.owner, other.owner) || types.isUnder(other.owner, made.owner);
            return made.name != MAKER && inLine && !made.agreesWith(other);
        }

        int numberOfHad(int t, int i) {
            int seen = 0;
            for (int k = 0; k < count; k++) {
                if (isIn(hadBy(t), k)) {
                    if (seen == i) {
                        return k;
                    }
                    seen++;
                }
            }
            return NONE;
        }

        boolean isOpen(int t) {
            return (hadBy(t) & abstracts) != 0;
        }

        long namedIn(int t, int name) {
            return name >= 0 && name <= MAKER ? hadBy(t) & named[name] : 0;
        }

        boolean hasMaker(int t) {
            return namedIn(t, MAKER) != 0;
        }

        /** The one that stands in a receiver's type for the one that was found. */
        Member takenFor(Member found, int t) {
            for (int i = 0; i < count; i++) {
                if (all[i].signature == found.signature && isIn(hadBy(t), i)) {
                    return all[i];
                }
            }
            return found;
        }

        Member at(int i) {
            return i >= 0 && i < count ? all[i] : null;
        }

        boolean isAnyStatic(long set) {
            return (set & statics) != 0;
        }

        boolean isAnyOtherThanStatic(long set) {
            return (set & ~statics) != 0;
        }

        boolean isAnyVaried(long set) {
            return (set & varied) != 0;
        }

        /** A ROW HAS what ANY HAS. */
        private long hadBy(int t) {
            return t >= 0 && t < MOST_TYPES ? had[t] : had[ANY] & ~named[MAKER];
        }

        static boolean isIn(long set, int i) {
            return (set >> i & 1) != 0;
        }
    }

    private static final class Face {
        private final int[] arguments;
        private final int result;

        Face(int[] arguments, int result) {
            this.arguments = arguments;
            this.result = result;
        }
    }

    private static final class Reference {
        private final int form;
        private final int type;
        private final int name;

        Reference(int form, int type, int name) {
            this.form = form;
            this.type = type;
            this.name = name;
        }
    }

    /** One SEARCH; the object is used again for the next one. */
    private static final class Search {
        private final Types types;
        private final Members members;
        private int[] arguments;
        private int from;
        private long fit;
        private int phaseOfFit;
        private Member found;

        Search(Types types, Members members) {
            this.types = types;
            this.members = members;
        }

        /** For all ARGUMENTS, or for those behind the first, which is the receiver then. */
        void run(int t, int name, int[] faceArguments, boolean behindFirst) {
            arguments = faceArguments;
            from = behindFirst ? 1 : 0;
            fit = 0;
            phaseOfFit = 0;
            found = null;
            if (behindFirst && (arguments.length == 0 || !types.isUnder(arguments[0], t))) {
                return;
            }
            long named = members.namedIn(t, name);
            for (int phase = 1; phase <= 3 && fit == 0; phase++) {
                gatherFit(named, phase);
            }
            found = mostSpecial();
        }

        int answer() {
            if (found != null) {
                return found.number;
            }
            return fit == 0 ? NONE : TWO;
        }

        boolean hasStatic() {
            return members.isAnyStatic(fit);
        }

        boolean hasOtherThanStatic() {
            return members.isAnyOtherThanStatic(fit);
        }

        private int argumentCount() {
            return arguments.length - from;
        }

        private void gatherFit(long named, int phase) {
            for (int i = 0; i < members.size(); i++) {
                if (Members.isIn(named, i) && fits(members.at(i), phase)) {
                    fit |= 1L << i;
                    phaseOfFit = phase;
                }
            }
        }

        private boolean fits(Member m, int phase) {
            int parameters = m.parameters.length;
            if (phase == 3 ? !m.isVaried() || parameters > argumentCount() + 1 : parameters != argumentCount()) {
                return false;
            }
            for (int i = 0; i < argumentCount(); i++) {
                int is = arguments[from + i];
                int wanted = m.typeAt(i, phase);
                if (phase == 1 ? !types.isUnder(is, wanted) : !types.isLoose(is, wanted)) {
                    return false;
                }
            }
            return true;
        }

        /** Null if none is SPECIAL, or more than one. */
        private Member mostSpecial() {
            Member special = null;
            for (int i = 0; i < members.size(); i++) {
                if (Members.isIn(fit, i) && isSpecial(members.at(i))) {
                    if (special != null) {
                        return null;
                    }
                    special = members.at(i);
                }
            }
            return special;
        }

        private boolean isSpecial(Member m) {
            for (int i = 0; i < members.size(); i++) {
                if (Members.isIn(fit, i) && !isUnderAll(m, members.at(i))) {
                    return false;
                }
            }
            return true;
        }

        private boolean isUnderAll(Member m, Member other) {
            int places = argumentCount();
            if (phaseOfFit == 3) {
                places = Math.max(places, Math.max(m.parameters.length, other.parameters.length));
            }
            for (int i = 0; i < places; i++) {
                if (!types.isUnder(m.typeAt(i, phaseOfFit), other.typeAt(i, phaseOfFit))) {
                    return false;
                }
            }
            return true;
        }
    }

    /** What a REFERENCE MEANS for a FACE; holds what it found last. */
    private static final class Meaning {
        private final Types types;
        private final Members members;
        private final Search first;
        private final Search second;
        private Search by;
        private boolean bySecond;

        Meaning(Types types, Members members) {
            this.types = types;
            this.members = members;
            this.first = new Search(types, members);
            this.second = new Search(types, members);
        }

        /** A MEMBER's number, PLAIN, or -10 less the FAULT. */
        int find(Reference r, Face f) {
            by = null;
            bySecond = false;
            if (r.form != ROW_NEW) {
                first.run(typeSearched(r), r.name, f.arguments, false);
            }
            if (r.form == TYPE_NAME) {
                second.run(r.type, r.name, f.arguments, true);
            }
            int fault = faultOf(r, f);
            if (fault == 0 && f.result != VOID && !types.isLoose(whatComes(r), f.result)) {
                fault = FAULT_RESULT;
            }
            if (fault != 0) {
                return -10 - fault;
            }
            return by == null ? PLAIN : by.answer();
        }

        /** The MEMBER that was MEANT; null for PLAIN. */
        Member memberMeant() {
            return by == null ? null : by.found;
        }

        boolean isInPhase3() {
            return by != null && by.phaseOfFit == 3;
        }

        /** The type of what a call gives, ahead of what the FACE makes of it. */
        int whatComes(Reference r) {
            if (r.form == ROW_NEW) {
                return r.type == INT ? ROW_OF_INTS : ROWS + r.type;
            }
            Member m = memberMeant();
            return m == null ? r.type : m.result;
        }

        Search runSearch(Reference r, Face f, int which) {
            if (which == 1) {
                first.run(typeSearched(r), r.name, f.arguments, false);
                return first;
            }
            second.run(r.type, r.name, f.arguments, true);
            return second;
        }

        boolean namesOneAlone(Reference r) {
            if (r.form == ROW_NEW) {
                return true;
            }
            long named = members.namedIn(typeSearched(r), r.name);
            int howMany = Long.bitCount(named);
            boolean isAlone = howMany == 1 || howMany == 0 && r.form == TYPE_NEW;
            return isAlone && !members.isAnyVaried(named);
        }

        private int typeSearched(Reference r) {
            return r.form == SUPER_NAME ? types.parentOf(r.type) : r.type;
        }

        private int faultOf(Reference r, Face f) {
            if (r.form == ROW_NEW) {
                return f.arguments.length == 1 && types.isLoose(f.arguments[0], INT) ? 0 : FAULT_NONE;
            }
            if (r.form == TYPE_NEW && members.isOpen(r.type)) {
                return FAULT_ABSTRACT;
            }
            if (r.form == TYPE_NEW && !members.hasMaker(r.type)) {
                return f.arguments.length == 0 ? 0 : FAULT_NONE;
            }
            return r.form == TYPE_NAME ? faultOfBoth() : faultOfFirst(r);
        }

        private int faultOfFirst(Reference r) {
            Member m = first.found;
            if (m == null) {
                return first.fit == 0 ? FAULT_NONE : FAULT_TWO;
            }
            by = first;
            if (m.isStatic()) {
                return FAULT_STATIC;
            }
            return r.form == SUPER_NAME && m.isAbstract() ? FAULT_ABSTRACT : 0;
        }

        private int faultOfBoth() {
            if (first.found != null && first.found.isStatic() && !second.hasOtherThanStatic()) {
                by = first;
                return 0;
            }
            if (second.found != null && !second.found.isStatic() && !first.hasStatic()) {
                by = second;
                bySecond = true;
                return 0;
            }
            if (first.fit == 0 && second.fit == 0) {
                return FAULT_NONE;
            }
            return first.hasStatic() || second.hasOtherThanStatic() ? FAULT_TWO : FAULT_STATIC;
        }
    }

    /** THINGS by number from 1 on; the next one's number is always the least that is free. */
    private static final class Things {
        private final int[] kinds = new int[MOST_THINGS + 1];
        private final int[] amounts = new int[MOST_THINGS + 1];
        private final int[] places = new int[(MOST_THINGS + 1) * MOST_PLACES];
        private int last;

        int size() {
            return last;
        }

        boolean isThing(int thing) {
            return thing >= 1 && thing <= last;
        }

        /** The amount is a BOX's int, or how many places a ROW has; the places are 0 at first. */
        int add(int kind, int amount) {
            if (last >= MOST_THINGS) {
                return FULL;
            }
            last++;
            kinds[last] = kind;
            amounts[last] = amount;
            for (int i = 0; i < MOST_PLACES; i++) {
                places[last * MOST_PLACES + i] = 0;
            }
            return last;
        }

        int kindOf(int thing) {
            return isThing(thing) ? kinds[thing] : NO_TYPE;
        }

        /** 0 of NULL, as it is with each of the THINGS that have none. */
        int amountOf(int thing) {
            return isThing(thing) ? amounts[thing] : 0;
        }

        int placeOf(int row, int i) {
            return isPlace(row, i) ? places[row * MOST_PLACES + i] : 0;
        }

        void setPlace(int row, int i, int v) {
            if (isPlace(row, i)) {
                places[row * MOST_PLACES + i] = v;
            }
        }

        private boolean isPlace(int row, int i) {
            return row >= 1 && row <= last && i >= 0 && i < MOST_PLACES;
        }

        void keepFirst(int howMany) {
            last = Math.min(last, howMany);
        }
    }

    /** No MEMBER can come while there are VALUES, so what was MEANT when one was made stays right. */
    private static final class Value {
        private final Reference reference;
        private final Face face;
        private final int receiver;
        private final Member member;
        private final boolean bySecond;
        private final boolean inPhase3;
        private final int comes;

        Value(Reference reference, Face face, int receiver, Meaning meaning) {
            this.reference = reference;
            this.face = face;
            this.receiver = receiver;
            this.member = meaning.memberMeant();
            this.bySecond = meaning.bySecond;
            this.inPhase3 = meaning.isInPhase3();
            this.comes = meaning.whatComes(reference);
        }
    }

    /**
     * Calls a VALUE. What comes first in its way is kept as the stop; behind it nothing more is made,
     * and the THINGS that were made ahead of it go again.
     */
    private static final class Caller {
        private final Members members;
        private final Things things;
        private final int[] got = new int[MOST_PARAMETERS];
        private int stop;
        private int outcome;
        private Member called;

        Caller(Members members, Things things) {
            this.members = members;
            this.things = things;
        }

        /** 0, or what it stopped for: NULL, SIZE, FULL. */
        int run(Value v, int[] args) {
            stop = 0;
            called = null;
            int before = things.size();
            int came = v.member == null ? makePlain(v, args) : callMember(v, args);
            outcome = convert(came, v.comes, v.face.result);
            if (stop != 0) {
                things.keepFirst(before);
            }
            return stop;
        }

        private int makePlain(Value v, int[] args) {
            if (v.reference.form == TYPE_NEW || v.face.arguments.length == 0) {
                return newThing(v.comes, 0);
            }
            int size = convert(args[0], v.face.arguments[0], INT);
            if (size < 0) {
                stop = SIZE;
            }
            if (size > MOST_PLACES) {
                stop = FULL;
            }
            return newThing(v.comes, size);
        }

        private int callMember(Value v, int[] args) {
            called = memberTaken(v, args);
            int from = v.bySecond ? 1 : 0;
            int last = called.parameters.length - 1;
            int alone = v.inPhase3 ? last : last + 1;
            passAlone(v.face.arguments, args, from, alone);
            if (v.inPhase3 && last >= 0) {
                got[last] = passRow(v.face.arguments, args, from + last, called.parameters[last]);
            }
            return giveResult();
        }

        private Member memberTaken(Value v, int[] args) {
            if (!v.bySecond && v.reference.form != VALUE_NAME) {
                return v.member;
            }
            int receiver = v.bySecond ? args[0] : v.receiver;
            if (receiver == 0) {
                stop = NULL;
                return v.member;
            }
            return members.takenFor(v.member, things.kindOf(receiver));
        }

        private void passAlone(int[] arguments, int[] args, int from, int alone) {
            for (int i = 0; i < alone && from + i < arguments.length; i++) {
                got[i] = convert(args[from + i], arguments[from + i], called.parameters[i]);
            }
        }

        /** The ROW's number comes ahead of those of the BOXES in it. */
        private int passRow(int[] arguments, int[] args, int from, int kind) {
            int row = newThing(kind, arguments.length - from);
            int part = kind == ROW_OF_INTS ? INT : kind - ROWS;
            for (int i = from; i < arguments.length; i++) {
                int passed = convert(args[i], arguments[i], part);
                things.setPlace(row, i - from, passed);
            }
            return row;
        }

        private int giveResult() {
            int result = called.result;
            if (result == VOID) {
                return 0;
            }
            if (result == INT) {
                return sumOfGot();
            }
            if (result == BOX) {
                return newThing(BOX, sumOfGot());
            }
            if (result >= ROWS) {
                return newThing(result, called.parameters.length);
            }
            return members.isOpen(result) ? 0 : newThing(result, 0);
        }

        private int sumOfGot() {
            int[] parameters = called.parameters;
            int last = parameters.length - 1;
            int sum = 100 * called.number;
            for (int i = 0; i <= last; i++) {
                if (parameters[i] == INT) {
                    sum += got[i];
                } else if (parameters[i] == BOX) {
                    sum += things.amountOf(got[i]);
                }
            }
            if (called.isVaried() && last >= 0 && parameters[last] == ROW_OF_INTS) {
                sum += sumOfPlaces(got[last]);
            }
            return sum;
        }

        private int sumOfPlaces(int row) {
            int sum = 0;
            for (int i = 0; i < things.amountOf(row); i++) {
                sum += things.placeOf(row, i);
            }
            return sum;
        }

        /** As what is of one type is handed on where another one is wanted (VOID: by a FACE alone). */
        private int convert(int v, int is, int wanted) {
            if (stop != 0 || wanted == VOID) {
                return 0;
            }
            if (is == INT && wanted != INT) {
                return newThing(BOX, v);
            }
            if (is == BOX && wanted == INT) {
                if (v == 0) {
                    stop = NULL;
                }
                return things.amountOf(v);
            }
            return v;
        }

        private int newThing(int kind, int amount) {
            if (stop != 0) {
                return 0;
            }
            int made = things.add(kind, amount);
            if (made == FULL) {
                stop = FULL;
                return 0;
            }
            return made;
        }
    }

    /** The numbers of the latest MEMBERS that were called, in a ring. */
    private static final class Trace {
        private final int[] kept = new int[MOST_TRACED];
        private int oldest;
        private int count;

        void add(int number) {
            kept[(oldest + count) % MOST_TRACED] = number;
            if (count < MOST_TRACED) {
                count++;
            } else {
                oldest = (oldest + 1) % MOST_TRACED;
            }
        }

        int at(int i) {
            return i >= 0 && i < count ? kept[(oldest + i) % MOST_TRACED] : NONE;
        }

        void forget() {
            oldest = 0;
            count = 0;
        }
    }
}
