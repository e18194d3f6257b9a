import java.util.Arrays;

/** A judge of programs with threads; README.md tells how it is used and how the file is laid out. */
public final class ThreadJudge {
    public static final int BAD = -1;

    // what the document allows at most, the library's own included
    private static final int TEXT = 12000;
    private static final int CLASSES = 43;
    private static final int FIELDS = 40;
    private static final int METHODS = 117;
    private static final int CODE = 1014;
    private static final int METHOD_CODE = 120;
    private static final int MAKERS = 120;
    private static final int METHOD_CATCHES = 8;
    private static final int CATCHES = 800;
    private static final int LABELS = 6100;
    private static final int STRINGS = 32;
    private static final int PARAMS = 6;
    private static final int ROW = 6;
    private static final int LOCALS = 10;
    private static final int PLACES = 18;
    private static final int NAME = 24;
    private static final int QUESTION = 200;
    private static final int BRACKETS = 20;
    private static final int INSTANCES = 300;
    private static final int OBJECTS = 480;
    private static final int NODES = 4000;
    private static final int THREADS = 12;
    private static final int FRAMES = 30;
    private static final int THINGS = 400;
    private static final int ELEMENTS = 16;
    private static final int SAID = 200;
    private static final int CLASHES = 1000;
    private static final int STEPS = 2000;

    // far above what any run can need
    private static final int FAR = 1000000;

    // words of 64 bits for a set of objects (or threads), of instances, of methods, of instructions
    private static final int WORDS = 8;
    private static final int INSTANCE_WORDS = 5;
    private static final int CODE_WORDS = 16;

    private static final int LIBRARY_CLASSES = 19;
    private static final int LIBRARY_FIELDS = 1;
    private static final int LIBRARY_METHODS = 17;

    // classes of the library
    private static final int OBJECT = 0;
    private static final int STRING = 2;
    private static final int CLASS = 3;
    private static final int METHOD = 4;
    private static final int THROWABLE = 5;
    private static final int NULL_POINTER = 6;
    private static final int ARITHMETIC = 7;
    private static final int INDEX = 8;
    private static final int CAST = 9;
    private static final int STORE = 10;
    private static final int SIZE = 11;
    private static final int MONITOR = 12;
    private static final int STATE = 13;
    private static final int NO_CLASS = 14;
    private static final int NO_METHOD = 15;

    // methods of the library
    private static final int RUN = 4;
    private static final int UNCAUGHT = 12;
    private static final int WAIT = 1;
    private static final int NOTIFY = 2;
    private static final int NOTIFY_ALL = 3;
    private static final int NAMED = 5;
    private static final int NEW_INSTANCE = 6;
    private static final int FIND = 7;
    private static final int INVOKE = 8;
    private static final int START = 13;
    private static final int JOIN = 14;
    private static final int PRINT = 15;
    private static final int HOOK = 16;

    // types: classes are their numbers, arrays of classes INTS - 1 less the class
    private static final int INTS = -2;
    private static final int UNKNOWN = 63;
    private static final int INT = 100;
    private static final int VOID = 101;
    private static final int VOIDS = 102;

    // sites of objects
    private static final int STRING_SITES = 2000;
    private static final int CLASS_SITES = 3000;
    private static final int METHOD_SITES = 4000;
    private static final int MACHINE_SITES = 5000;
    private static final int INSTANCE_SITES = 6000;
    private static final int SITES = 6000 + CLASSES;
    private static final int NONE = -1;

    // flags of classes
    private static final int INTERFACE = 1;
    private static final int ABSTRACT_CLASS = 2;
    private static final int EXCLUDED = 4;

    // flags of fields and methods
    private static final int STATIC = 1;
    private static final int VOLATILE = 2;
    private static final int FINAL = 4;
    private static final int ABSTRACT = 8;
    private static final int SYNCHRONIZED = 16;
    private static final int LINES = 32;
    private static final int NATIVE = 64;

    // columns of the tables of classes, fields, methods, instructions, labels, catches
    private static final int C_NAME = 0;
    private static final int C_PLACE = 1;
    private static final int C_UP = 2;
    private static final int C_FLAGS = 3;
    private static final int C_METHOD = 4;
    private static final int C_METHODS = 5;
    private static final int C_EXT = 6;
    private static final int C_EXT_PLACE = 7;
    private static final int C_IMPLS = 8;
    private static final int C_CLINIT = 9;
    private static final int C_COLUMNS = 10;
    private static final int F_NAME = 0;
    private static final int F_PLACE = 1;
    private static final int F_CLASS = 2;
    private static final int F_TYPE = 3;
    private static final int F_FLAGS = 4;
    private static final int F_COLUMNS = 5;
    private static final int M_NAME = 0;
    private static final int M_PLACE = 1;
    private static final int M_CLASS = 2;
    private static final int M_TYPE = 3;
    private static final int M_FLAGS = 4;
    private static final int M_PARAMS = 5;
    private static final int M_FIRST = 6;
    private static final int M_COUNT = 7;
    private static final int M_LABEL = 8;
    private static final int M_LABELS = 9;
    private static final int M_CATCH = 10;
    private static final int M_CATCHES = 11;
    private static final int M_SIGN = 12;
    private static final int M_COLUMNS = 13;
    private static final int I_OP = 0;
    private static final int I_PLACE = 1;
    private static final int I_METHOD = 2;
    private static final int I_A = 3;
    private static final int I_CLASS = 4;
    private static final int I_MEMBER = 5;
    private static final int I_TYPE = 6;
    private static final int I_PARAMS = 7;
    private static final int I_TARGET = 8;
    private static final int I_NAMED = 9;
    private static final int I_MADE = 10;
    private static final int I_HEIGHT = 11;
    private static final int I_ROW = 12;
    private static final int I_COLUMNS = 13;
    private static final int L_NAME = 0;
    private static final int L_PLACE = 1;
    private static final int L_AT = 2;
    private static final int L_COLUMNS = 3;
    private static final int T_PLACE = 0;
    private static final int T_CLASS = 1;
    private static final int T_FROM = 2;
    private static final int T_TO = 3;
    private static final int T_HANDLER = 4;
    private static final int T_COLUMNS = 5;

    // instructions that the code speaks of
    private static final int PUSH = 0;
    private static final int TEXT_OF = 1;
    private static final int NULL = 2;
    private static final int LOAD = 3;
    private static final int STORE_LOCAL = 4;
    private static final int INC = 5;
    private static final int ADD = 6;
    private static final int SUB = 7;
    private static final int MUL = 8;
    private static final int DIV = 9;
    private static final int REM = 10;
    private static final int NEG = 11;
    private static final int AND = 12;
    private static final int OR = 13;
    private static final int XOR = 14;
    private static final int SHL = 15;
    private static final int SHR = 16;
    private static final int POP = 17;
    private static final int DUP = 18;
    private static final int UNDER = 19;
    private static final int SWAP = 20;
    private static final int GOTO = 21;
    private static final int IF_EQ = 22;
    private static final int IF_LE = 27;
    private static final int CMP_EQ = 28;
    private static final int CMP_LE = 33;
    private static final int SAME = 34;
    private static final int OTHER = 35;
    private static final int IF_NULL = 36;
    private static final int IF_SOME = 37;
    private static final int GET = 38;
    private static final int PUT = 39;
    private static final int GET_STATIC = 40;
    private static final int PUT_STATIC = 41;
    private static final int NEW = 42;
    private static final int ARRAY = 43;
    private static final int ELEMENT = 44;
    private static final int SET_ELEMENT = 45;
    private static final int LENGTH = 46;
    private static final int CAST_TO = 47;
    private static final int IS = 48;
    private static final int VIRTUAL = 49;
    private static final int SPECIAL = 50;
    private static final int CALL = 51;
    private static final int LAMBDA = 52;
    private static final int ENTER = 53;
    private static final int EXIT = 54;
    private static final int THROW = 55;
    private static final int RETURN = 56;
    private static final int GIVE = 57;

    /** What an instruction wants, by its number: see Reader.wanted(). */
    private static final String FORMS = "ns-nni---------------lllllllllllllllllffffct---ttmmmd-----";

    /** How much of the stack an instruction takes, by its number; 9 where it depends on a method. */
    private static final byte[] TAKES = {
        0, 0, 0, 0, 1, 0, 2, 2, 2, 2, 2, 1, 2, 2, 2, 2, 2, 1, 1, 2, 2, 0, 1, 1, 1, 1, 1, 1, 2,
        2, 2, 2, 2, 2, 2, 2, 1, 1, 1, 2, 0, 1, 0, 1, 2, 3, 1, 1, 1, 9, 9, 9, 9, 1, 1, 1, 0, 1};

    /** How much it leaves there; 9 where it depends on a method. */
    private static final byte[] LEAVES = {
        1, 1, 1, 1, 0, 0, 1, 1, 1, 1, 1, 1, 1, 1, 1, 1, 1, 0, 2, 3, 2, 0, 0, 0, 0, 0, 0, 0, 0,
        0, 0, 0, 0, 0, 0, 0, 0, 0, 1, 0, 1, 0, 1, 1, 1, 0, 1, 1, 1, 9, 9, 9, 1, 0, 0, 0, 0, 0};

    // words that are known ahead: the instructions, the other reserved words, names that mean something
    private static final String WORDS_OF_CODE =
        "push string null load store inc add sub mul div rem neg and or xor shl shr pop dup under swap goto ifeq ifne iflt ifge ifgt ifle cmpeq cmpne cmplt cmpge cmpgt cmple same other ifnull ifsome get put getstatic putstatic new array element setelement length cast is virtual special call lambda enter exit throw return give";
    private static final String WORDS_OF_TEXT =
        "int void abstract excluded class interface extends implements static volatile final synchronized field method catch";
    private static final String WORDS_OF_QUESTIONS =
        "<init> <clinit> main all reached native racing locking starting callers callees into from";
    private static final int W_CODE = 58;
    private static final int W_INT = 58;
    private static final int W_VOID = 59;
    private static final int W_ABSTRACT = 60;
    private static final int W_EXCLUDED = 61;
    private static final int W_CLASS = 62;
    private static final int W_INTERFACE = 63;
    private static final int W_EXTENDS = 64;
    private static final int W_IMPLEMENTS = 65;
    private static final int W_STATIC = 66;
    private static final int W_VOLATILE = 67;
    private static final int W_FINAL = 68;
    private static final int W_SYNCHRONIZED = 69;
    private static final int W_FIELD = 70;
    private static final int W_METHOD = 71;
    private static final int W_CATCH = 72;
    private static final int RESERVED = 73;
    private static final int W_INIT = 73;
    private static final int W_CLINIT = 74;
    private static final int W_MAIN = 75;
    private static final int W_ALL = 76;
    private static final int W_REACHED = 77;
    private static final int W_NATIVE = 78;
    private static final int W_RACING = 79;
    private static final int W_LOCKING = 80;
    private static final int W_STARTING = 81;
    private static final int W_CALLERS = 82;
    private static final int W_CALLEES = 83;
    private static final int W_INTO = 84;
    private static final int W_FROM = 85;

    private static final String LIBRARY_OBJECT =
        "class Object { method void <init>() { return; } method void wait(); method void notify(); method void notifyAll(); } interface Runnable { abstract method void run(); } ";
    private static final String LIBRARY_TEXTS =
        "class String { } class Class { static method Class named(String); method Object newInstance(); method Method find(String); } class Method { method Object invoke(Object); } ";
    private static final String LIBRARY_THROWN =
        "class Throwable { } class NullPointer extends Throwable { } class Arithmetic extends Throwable { } class Index extends Throwable { } class Cast extends Throwable { } class Store extends Throwable { } class Size extends Throwable { } class Monitor extends Throwable { } class State extends Throwable { } class NoClass extends Throwable { } class NoMethod extends Throwable { } ";
    private static final String LIBRARY_THREAD =
        "class Thread implements Runnable { field Runnable target; method void <init>() { return; } method void <init>(Runnable) { load 0; load 1; put Thread.target; return; } method void run() { load 0; get Thread.target; ifnull L; load 0; get Thread.target; virtual void Runnable.run(); L: return; } method void uncaught(Throwable) { return; } method void start(); method void join(); } ";
    private static final String LIBRARY_OUT =
        "class Out { static method void print(int); } class Runtime { static method void hook(Thread); } ";

    private final char[] text = new char[TEXT];
    private int size;
    private int fault;
    private int place = BAD;
    private boolean degraded;
    private final Program program = new Program();
    private final Reader reader = new Reader(program);
    private final Linker linker = new Linker(program, reader);
    private final Checker checker = new Checker(program);
    private final Flow flow = new Flow(program);
    private final Threads threads = new Threads(program, checker, flow);
    private final Monitors monitors = new Monitors(program, checker, flow, threads);
    private final Question question = new Question(program, reader, threads, monitors);
    private final Heap heap = new Heap(program);
    private final Clocks clocks = new Clocks(monitors, flow);
    private final Machine machine = new Machine(program, flow, monitors, heap, clocks);

    public ThreadJudge() {
        program.ready = false;
    }

    // ---- the text

    public int feed(int a, int b, int c, int d, int e) {
        if (size > TEXT - 20) {
            return BAD;
        }
        putNumber(a);
        putNumber(b);
        putNumber(c);
        putNumber(d);
        putNumber(e);
        return size;
    }

    private void putNumber(int v) {
        for (int shift = 24; shift >= 0 && size < TEXT; shift -= 8) {
            text[size++] = (char) (v >>> shift & 255);
        }
    }

    public int end(int n) {
        if (n < 0 || n > 20 || size < 20) {
            return BAD;
        }
        size += n - 20;
        return size;
    }

    public int change(int i, int v) {
        if (i < 0 || i >= size || v < 0 || v > 255) {
            return BAD;
        }
        int was = text[i];
        text[i] = (char) v;
        return was;
    }

    public int clear() {
        int was = size;
        size = 0;
        return was;
    }

    public int load() {
        program.clean();
        flow.done = false;
        machine.live = false;
        question.forget();
        fault = 0;
        place = BAD;
        reader.open();
        if (!reader.read(reader.library, reader.library.length) || !reader.read(text, size)) {
            fault = reader.fault;
            place = reader.place;
        } else if (!linker.link(size)) {
            fault = linker.fault;
            place = linker.place;
        } else if (!checker.check()) {
            fault = checker.fault;
            place = checker.place;
        }
        program.ready = fault == 0;
        return fault;
    }

    public int count(int what) {
        if (what < 0 || what > 24) {
            return BAD;
        }
        if (what < 3) {
            return what == 0 ? fault : what == 1 ? place : size;
        }
        if (what < 8) {
            return program.ready ? program.total(what) : 0;
        }
        if (what < 17) {
            return flow.done ? judged(what) : 0;
        }
        return machine.live ? machine.total(what) : 0;
    }

    private int judged(int what) {
        switch (what) {
            case 8: return flow.instances;
            case 9: return flow.objects;
            case 10: return threads.threads;
            case 11: return flow.nodes;
            case 12: return monitors.races;
            case 13: return monitors.knots;
            case 14: return monitors.waits;
            case 15: return flow.openCount();
            default: return degraded ? 1 : 0;
        }
    }

    // ---- the program at hand

    private boolean isClass(int c) {
        return program.ready && c >= 0 && c < program.classes;
    }

    private boolean isMethod(int m) {
        return program.ready && m >= 0 && m < program.methods;
    }

    private boolean isInstruction(int i) {
        return program.ready && i >= 0 && i < program.size;
    }

    /** Whether there is such an instruction, and it is come to. */
    private boolean isComeTo(int i) {
        return isInstruction(i) && program.code[I_HEIGHT][i] >= 0;
    }

    private boolean isPlace(int i, int place) {
        return isComeTo(i) && place >= 0 && place < LOCALS + program.code[I_HEIGHT][i];
    }

    public int classOf(int c, int what) {
        if (!isClass(c)) {
            return BAD;
        }
        int[][] cls = program.cls;
        switch (what) {
            case 0: return cls[C_UP][c];
            case 1: return (cls[C_FLAGS][c] & INTERFACE) != 0 ? 1 : 0;
            case 2: return (cls[C_FLAGS][c] & ABSTRACT_CLASS) != 0 ? 1 : 0;
            case 3: return (cls[C_FLAGS][c] & EXCLUDED) != 0 ? 1 : 0;
            case 4: return cls[C_METHOD][c];
            case 5: return cls[C_METHODS][c];
            case 6: return reader.lengthOf(cls[C_NAME][c]);
            default: return BAD;
        }
    }

    public int method(int m, int what) {
        if (!isMethod(m)) {
            return BAD;
        }
        int[][] mth = program.mth;
        switch (what) {
            case 0: return mth[M_CLASS][m];
            case 1: return mth[M_PARAMS][m];
            case 2: return program.traits(m);
            case 3: return program.hasFlag(m, LINES) ? mth[M_FIRST][m] : BAD;
            case 4: return mth[M_COUNT][m];
            case 5: return mth[M_PLACE][m];
            case 6: return mth[M_CATCHES][m];
            default: return BAD;
        }
    }

    public int instruction(int i, int what) {
        if (!isInstruction(i)) {
            return BAD;
        }
        switch (what) {
            case 0: return program.code[I_OP][i];
            case 1: return program.code[I_METHOD][i];
            case 2: return program.code[I_TARGET][i];
            case 3: return program.code[I_HEIGHT][i];
            default: return BAD;
        }
    }

    public int below(int c, int d) {
        if (!isClass(c) || !isClass(d)) {
            return BAD;
        }
        return program.fits(c, d) ? 1 : 0;
    }

    public int selected(int c, int m) {
        if (!isClass(c) || !isMethod(m)) {
            return BAD;
        }
        return program.select(c, program.mth[M_SIGN][m]);
    }

    public int kind(int i, int place, int c) {
        if (!isPlace(i, place) || c < -5 || c == -1 || c >= program.classes) {
            return BAD;
        }
        return checker.hasKind(i, place, c) ? 1 : 0;
    }

    // ---- what may be

    public int analyse(int policy, int granted) {
        if (!program.ready || policy < 0 || policy > 3 || granted < 1 || granted > INSTANCES) {
            return BAD;
        }
        machine.live = false;
        flow.done = false;
        degraded = !flow.solve(policy, granted);
        if (degraded) {
            flow.solve(0, granted);
        }
        degraded = degraded || flow.instances > granted;
        threads.conclude();
        monitors.conclude();
        flow.done = true;
        return flow.instances;
    }

    public int holds(int i, int place, int k) {
        if (!flow.done || !isPlace(i, place)) {
            return BAD;
        }
        return threads.pick(flow.allIn(i, place), k);
    }

    public int object(int o, int what) {
        if (!flow.done || o < 0 || o >= flow.objects) {
            return BAD;
        }
        return threads.tellObject(o, what);
    }

    public int field(int o, int f, int k) {
        if (!flow.done || f < -7 || f >= program.fields) {
            return BAD;
        }
        boolean fixed = f >= 0 && (program.fld[F_FLAGS][f] & STATIC) != 0;
        if (!fixed && (o < 0 || o >= flow.objects)) {
            return BAD;
        }
        return threads.pick(flow.heapOf(fixed ? OBJECTS : threads.objectAt(o), f), k);
    }

    public int calls(int i, boolean starts, int k) {
        if (!flow.done || !isInstruction(i)) {
            return BAD;
        }
        return threads.pickMethod(starts ? threads.starting : threads.calling, i * 2, k);
    }

    public int reached(int m, int what) {
        if (!flow.done || !isMethod(m) || what < 0 || what > 1) {
            return BAD;
        }
        return what == 0 ? flow.instancesOf(m) : threads.isOnce(m) ? 1 : 0;
    }

    public int begins(int c) {
        if (!flow.done || !isClass(c)) {
            return BAD;
        }
        return flow.mayBegin(c) ? 1 : 0;
    }

    public int thread(int t, int what) {
        if (!flow.done || t < 0 || t >= threads.threads) {
            return BAD;
        }
        return threads.tellThread(t, what);
    }

    public int parallel(int i, int j) {
        if (!flow.done || !isComeTo(i) || !isComeTo(j)) {
            return BAD;
        }
        return threads.mayMeet(i, j) ? 1 : 0;
    }

    public int held(int i, boolean surely, int k) {
        if (!flow.done || !isComeTo(i)) {
            return BAD;
        }
        return threads.pick(monitors.allHeld(i, surely), k);
    }

    public int race(int k, int what) {
        if (!flow.done || k < 0 || k >= monitors.races || what < 0 || what > 2) {
            return BAD;
        }
        return monitors.tellRace(k, what);
    }

    public int knot(int k, int what) {
        if (!flow.done || k < 0 || k >= monitors.knots || what < 0 || what > 2) {
            return BAD;
        }
        return monitors.tellKnot(k, what);
    }

    public int waits(int k, int what) {
        if (!flow.done || k < 0 || k >= monitors.waits || what < 0 || what > 1) {
            return BAD;
        }
        return monitors.tellWait(k, what);
    }

    public int unresolved(int k) {
        return flow.done ? flow.openAt(k) : BAD;
    }

    public int way(int m, int k) {
        if (!flow.done || !isMethod(m)) {
            return BAD;
        }
        return threads.wayTo(m, k);
    }

    // ---- questions

    public int ask(int c) {
        return question.add(c);
    }

    public int answer() {
        return flow.done ? question.solve() : -1000;
    }

    public int answered(int k) {
        return k < 0 ? BAD : question.nth(k);
    }

    // ---- the machine

    public boolean begin() {
        if (!program.ready) {
            return false;
        }
        machine.open();
        return true;
    }

    public int step(int t) {
        return machine.live ? machine.go(t) : BAD;
    }

    public int run(int steps, int draw) {
        if (!machine.live || steps < 1 || steps > STEPS) {
            return BAD;
        }
        int x = draw;
        for (int k = 0; k < steps; k++) {
            x = x * 1103515245 + 12345 & 0x7fffffff;
            if (machine.go(machine.ready(x / 65536)) == 0) {
                return k;
            }
        }
        return steps;
    }

    public int state(int t, int what) {
        if (!machine.live || t < 0 || t >= machine.threads) {
            return BAD;
        }
        return machine.tellThread(t, what);
    }

    public int local(int t, int place) {
        if (!machine.live || t < 0 || t >= machine.threads) {
            return BAD;
        }
        return machine.tellPlace(t, place);
    }

    public int thing(int n, int what) {
        if (!machine.live || n < 0 || n >= heap.things) {
            return BAD;
        }
        return heap.tell(n, what);
    }

    public int value(int n, int f) {
        return machine.live ? heap.slotValue(n, f) : BAD;
    }

    public int said(int k) {
        if (!machine.live || k < 0 || k >= heap.saids) {
            return BAD;
        }
        return heap.said[k];
    }

    public int clash(int k, int what) {
        if (!machine.live || k < 0 || k >= clocks.kept || what < 0 || what > 1) {
            return BAD;
        }
        return what == 0 ? clocks.lesser[k] : clocks.greater[k];
    }

    public boolean foreseen() {
        return !machine.live || !flow.done || flow.openCount() > 0 || machine.good && clocks.good;
    }

    // ---- sets of bits in rows of long numbers

    private static boolean hasBit(long[] row, int at, int k) {
        int w = at + (k >> 6);
        return w >= 0 && w < row.length && (row[w] >>> (k & 63) & 1L) != 0;
    }

    /** Whether it was new. */
    private static boolean addBit(long[] row, int at, int k) {
        int w = at + (k >> 6);
        if (w < 0 || w >= row.length) {
            return false;
        }
        long was = row[w];
        row[w] = was | 1L << (k & 63);
        return row[w] != was;
    }

    private static void dropBit(long[] row, int at, int k) {
        int w = at + (k >> 6);
        if (w >= 0 && w < row.length) {
            row[w] &= ~(1L << (k & 63));
        }
    }

    /** The least member that is k or more; the bound, if none is below it. */
    private static int nextBit(long[] row, int at, int k, int bound) {
        for (int w = k >> 6; w << 6 < bound; w++) {
            long rest = row[at + w];
            if (w == k >> 6) {
                rest &= -1L << (k & 63);
            }
            if (rest != 0) {
                return Math.min(bound, (w << 6) + Long.numberOfTrailingZeros(rest));
            }
        }
        return bound;
    }

    /** Adds a set to another one: whether that grew. */
    private static boolean merge(long[] to, int a, long[] from, int b, int words) {
        boolean grew = false;
        for (int w = 0; w < words; w++) {
            long more = from[b + w] & ~to[a + w];
            if (more != 0) {
                to[a + w] |= more;
                grew = true;
            }
        }
        return grew;
    }

    private static boolean meet(long[] one, int a, long[] other, int b, int words) {
        for (int w = 0; w < words; w++) {
            if ((one[a + w] & other[b + w]) != 0) {
                return true;
            }
        }
        return false;
    }

    private static int bitCount(long[] row, int at, int words) {
        int n = 0;
        for (int w = 0; w < words; w++) {
            n += Long.bitCount(row[at + w]);
        }
        return n;
    }

    /** The tables of the program: classes, fields, methods, instructions, labels, catches, strings. */
    private static final class Program {
        boolean ready;
        int main;
        int classes;
        final int[][] cls = new int[C_COLUMNS][CLASSES];
        /** Names behind 'implements' and their places, in pairs, six for each class. */
        final int[] impl = new int[CLASSES * 12];
        /** The classes that a class is below; those that are below it. */
        final long[] above = new long[CLASSES];
        final long[] under = new long[CLASSES];
        int fields;
        final int[][] fld = new int[F_COLUMNS][FIELDS];
        int methods;
        final int[][] mth = new int[M_COLUMNS][METHODS];
        final int[] params = new int[METHODS * PARAMS];
        /** What is selected, by class and sign. */
        final int[] choice = new int[CLASSES * METHODS];
        int size;
        final int[][] code = new int[I_COLUMNS][CODE];
        final int[] wants = new int[CODE * PARAMS];
        int labels;
        final int[][] label = new int[L_COLUMNS][LABELS];
        int catches;
        final int[][] trap = new int[T_COLUMNS][CATCHES];
        int strings;
        final int[] string = new int[STRINGS];

        void clean() {
            ready = false;
            main = BAD;
            classes = 0;
            fields = 0;
            methods = 0;
            size = 0;
            labels = 0;
            catches = 0;
            strings = 0;
        }

        int total(int what) {
            switch (what) {
                case 3: return classes;
                case 4: return fields;
                case 5: return methods;
                case 6: return size;
                default: return strings;
            }
        }

        boolean hasFlag(int m, int flag) {
            return (mth[M_FLAGS][m] & flag) != 0;
        }

        int traits(int m) {
            return (hasFlag(m, STATIC) ? 1 : 0) | (hasFlag(m, ABSTRACT) ? 2 : 0)
                | (hasFlag(m, SYNCHRONIZED) ? 4 : 0) | (hasFlag(m, NATIVE) ? 8 : 0);
        }

        /** The first class of a name. */
        int named(int name) {
            for (int c = 0; c < classes; c++) {
                if (cls[C_NAME][c] == name) {
                    return c;
                }
            }
            return BAD;
        }

        boolean isKind(int c, int flag) {
            return c >= 0 && c < classes && (cls[C_FLAGS][c] & flag) != 0;
        }

        boolean isReference(int type) {
            return type < INT;
        }

        /** Whether what is of type a is below type b; both are references. */
        boolean fits(int a, int b) {
            if (a >= 0) {
                return a < CLASSES && b >= 0 && b < CLASSES && (above[a] >>> b & 1L) != 0;
            }
            if (a == b || b == OBJECT) {
                return true;
            }
            int c = INTS - 1 - a;
            int d = INTS - 1 - b;
            return c >= 0 && c < CLASSES && d >= 0 && d < CLASSES && (above[c] >>> d & 1L) != 0;
        }

        /** A method's sign is the first method with its name and parameters. */
        int select(int type, int sign) {
            int c = type < 0 ? OBJECT : type;
            return c < classes && sign >= 0 && sign < methods ? choice[c * METHODS + sign] : BAD;
        }

        /** The method of a class that has a sign. */
        int own(int c, int sign) {
            int from = cls[C_METHOD][c];
            for (int m = from; m < from + cls[C_METHODS][c]; m++) {
                if (mth[M_SIGN][m] == sign) {
                    return m;
                }
            }
            return BAD;
        }

        int find(int c, int sign) {
            for (int d = c, n = 0; d >= 0 && n < CLASSES; d = cls[C_UP][d], n++) {
                int m = own(d, sign);
                if (m >= 0) {
                    return m;
                }
            }
            for (int d = 0; d < classes; d++) {
                int m = isKind(d, INTERFACE) && fits(c, d) ? own(d, sign) : BAD;
                if (m >= 0) {
                    return m;
                }
            }
            return BAD;
        }

        /** What find() of a CLASS finds: with lines, without parameters. */
        int findNamed(int c, int name) {
            if (name == W_INIT || name == W_CLINIT) {
                return BAD;
            }
            for (int d = c, n = 0; d >= 0 && n < CLASSES; d = cls[C_UP][d], n++) {
                int from = cls[C_METHOD][d];
                for (int m = from; m < from + cls[C_METHODS][d]; m++) {
                    if (mth[M_NAME][m] == name && mth[M_PARAMS][m] == 0 && (mth[M_FLAGS][m] & LINES) != 0) {
                        return m;
                    }
                }
            }
            return BAD;
        }

        /** The class that site's objects are of: of lambdas the interface. */
        int typeOf(int site) {
            if (site < STRING_SITES) {
                return code[code[I_OP][site] == LAMBDA ? I_NAMED : I_TARGET][site];
            }
            if (site < MACHINE_SITES) {
                return site < CLASS_SITES ? STRING : site < METHOD_SITES ? CLASS : METHOD;
            }
            return site - (site < INSTANCE_SITES ? MACHINE_SITES : INSTANCE_SITES);
        }

        boolean isLambda(int site) {
            return site < size && code[I_OP][site] == LAMBDA;
        }

        /** Whether a site makes lambdas for the abstract method of a sign. */
        boolean isLambdaFor(int site, int sign) {
            return site < size && code[I_OP][site] == LAMBDA && mth[M_SIGN][code[I_MADE][site]] == sign;
        }

        /** The method that 49, 50 call on what comes from a site. */
        int callee(int i, int site) {
            int m = code[I_TARGET][i];
            if (code[I_OP][i] == SPECIAL) {
                return m;
            }
            if (isLambdaFor(site, mth[M_SIGN][m])) {
                return code[I_TARGET][site];
            }
            return select(typeOf(site), mth[M_SIGN][m]);
        }

        /** The class that a site is the CLASS of; the method that it is the METHOD of; the name of its STRING. */
        int classAt(int site) {
            return site >= CLASS_SITES && site < METHOD_SITES ? site - CLASS_SITES : BAD;
        }

        int methodAt(int site) {
            return site >= METHOD_SITES && site < MACHINE_SITES ? site - METHOD_SITES : BAD;
        }

        int nameAt(int site) {
            return site >= STRING_SITES && site < CLASS_SITES ? string[site - STRING_SITES] : BAD;
        }

        /** The class whose name the STRING of a site tells. */
        int classTold(int site) {
            int name = nameAt(site);
            return name < 0 ? BAD : named(name);
        }

        int takes(int i) {
            int op = code[I_OP][i];
            if (op < VIRTUAL || op > LAMBDA) {
                return TAKES[op];
            }
            int n = mth[M_PARAMS][code[I_TARGET][i]];
            return op == CALL ? n : op == LAMBDA ? n - mth[M_PARAMS][code[I_MADE][i]] : n + 1;
        }

        int leaves(int i) {
            int op = code[I_OP][i];
            if (op < VIRTUAL || op > CALL) {
                return LEAVES[op];
            }
            return mth[M_TYPE][code[I_TARGET][i]] == VOID ? 0 : 1;
        }

        boolean jumps(int op) {
            return op >= GOTO && op <= IF_SOME;
        }

        boolean goesOn(int op) {
            return op != GOTO && op < THROW;
        }

        /** Fills in from which place each place behind an instruction comes (BAD: from what it makes). */
        void shape(int i, int[] from) {
            int op = code[I_OP][i];
            int h = code[I_HEIGHT][i];
            int keep = Math.max(0, h - takes(i)) + LOCALS;
            for (int q = 0; q < PLACES; q++) {
                from[q] = q < keep ? q : BAD;
            }
            if (op == LOAD) {
                from[keep] = code[I_A][i];
            } else if (op == STORE_LOCAL) {
                from[code[I_A][i]] = keep;
            } else if (op == DUP) {
                from[keep] = keep;
                from[keep + 1] = keep;
            } else if (op == UNDER || op == SWAP) {
                from[keep] = keep + 1;
                from[keep + 1] = keep;
                if (op == UNDER) {
                    from[keep + 2] = keep + 1;
                }
            }
        }

        /** How many places are taken behind an instruction. */
        int behind(int i) {
            return LOCALS + code[I_HEIGHT][i] - takes(i) + leaves(i);
        }

        boolean within(int c, int i) {
            return i >= trap[T_FROM][c] && i < trap[T_TO][c];
        }

        /** The first catch that an instruction is in and whose class a thrown one is below. */
        int catchFor(int i, int type) {
            int m = code[I_METHOD][i];
            int from = mth[M_CATCH][m];
            for (int c = from; c < from + mth[M_CATCHES][m]; c++) {
                if (within(c, i) && fits(type, trap[T_CLASS][c])) {
                    return c;
                }
            }
            return BAD;
        }
    }

    /** Reads the library and a text: tokens, names and the grammar. */
    private static final class Reader {
        // tokens
        private static final int END = 0;
        private static final int WORD = 1;
        private static final int NUMBER = 2;
        private static final int QUOTED = 3;
        private static final int SIGN = 4;
        private static final int WRONG = 5;
        // where the reader stands
        private static final int OUTSIDE = 0;
        private static final int IN_CLASS = 1;
        private static final int IN_METHOD = 2;
        private static final int IN_LINE = 3;

        private static final int NAMES = 6400;
        private static final int SIGNS = 16000;
        private static final int BUCKETS = 4096;
        private static final String ALL_SIGNS = "{}()[];:,.";

        private final Program p;
        private final char[] known;
        final char[] library;
        private final char[] signs = new char[SIGNS];
        private final int[] start = new int[NAMES];
        private final int[] length = new int[NAMES];
        private final int[] next = new int[NAMES];
        private final int[] head = new int[BUCKETS];
        private int names;
        private char[] source;
        private int size;
        private final int[] kinds = new int[TEXT + 3];
        private final int[] places = new int[TEXT + 3];
        private final int[] values = new int[TEXT + 3];
        private int tokens;
        private int at;
        private int mode;
        int fault;
        int place;

        Reader(Program program) {
            p = program;
            StringBuilder words = new StringBuilder();
            words.append(WORDS_OF_CODE).append(' ').append(WORDS_OF_TEXT).append(' ').append(WORDS_OF_QUESTIONS).append(' ');
            known = words.toString().toCharArray();
            StringBuilder classes = new StringBuilder();
            classes.append(LIBRARY_OBJECT).append(LIBRARY_TEXTS).append(LIBRARY_THROWN);
            classes.append(LIBRARY_THREAD).append(LIBRARY_OUT);
            library = classes.toString().toCharArray();
            source = library;
        }

        /** Forgets all names but those that are known ahead. */
        void open() {
            fault = 0;
            place = BAD;
            names = 0;
            Arrays.fill(head, BAD);
            for (int k = 0, from = 0; k < known.length; k++) {
                if (known[k] == ' ') {
                    intern(known, from, k);
                    from = k + 1;
                }
            }
        }

        // ---- names

        private static int bucket(char[] from, int a, int b) {
            int hash = 0;
            for (int k = a; k < b; k++) {
                hash = hash * 31 + from[k];
            }
            return hash & BUCKETS - 1;
        }

        /** The number of a name that is known. */
        int lookUp(char[] from, int a, int b) {
            int name = head[bucket(from, a, b)];
            for (int n = 0; name >= 0 && n < NAMES; n++) {
                if (length[name] == b - a && alike(name, from, a)) {
                    return name;
                }
                name = next[name];
            }
            return BAD;
        }

        private boolean alike(int name, char[] from, int a) {
            for (int k = 0; k < length[name]; k++) {
                if (signs[start[name] + k] != from[a + k]) {
                    return false;
                }
            }
            return true;
        }

        private int intern(char[] from, int a, int b) {
            int name = lookUp(from, a, b);
            int used = names == 0 ? 0 : start[names - 1] + length[names - 1];
            if (name >= 0 || names >= NAMES || used + b - a > SIGNS) {
                return name;
            }
            name = names++;
            start[name] = used;
            length[name] = b - a;
            System.arraycopy(from, a, signs, used, b - a);
            int k = bucket(from, a, b);
            next[name] = head[k];
            head[k] = name;
            return name;
        }

        int lengthOf(int name) {
            return name >= 0 && name < names ? length[name] : BAD;
        }

        boolean isAngled(int name) {
            return name >= 0 && name < names && length[name] > 0 && signs[start[name]] == '<';
        }

        // ---- tokens

        static boolean opensWord(char c) {
            return c >= 'a' && c <= 'z' || c >= 'A' && c <= 'Z' || c == '_' || c == '<';
        }

        static boolean isDigit(char c) {
            return c >= '0' && c <= '9';
        }

        static boolean isInWord(char c) {
            return opensWord(c) && c != '<' || isDigit(c) || c == '>';
        }

        private static boolean isBlank(char c) {
            return c == 9 || c == 10 || c == 13 || c == 32;
        }

        private void token(int kind, int where, int what) {
            kinds[tokens] = kind;
            places[tokens] = where;
            values[tokens] = what;
            tokens++;
        }

        /** Cuts a source into tokens, up to the first that is wrong. */
        private void cut(char[] from, int n) {
            source = from;
            size = n;
            tokens = 0;
            int pos = pastBlanks(0);
            for (int k = 0; k < n && pos >= 0 && pos < size; k++) {
                pos = cutOne(pos);
                if (pos >= 0) {
                    pos = pastBlanks(pos);
                }
            }
            token(END, size, 0);
        }

        private int pastBlanks(int pos) {
            int k = pos;
            boolean remark = false;
            for (; k < size && (remark || source[k] == '#' || isBlank(source[k])); k++) {
                remark = source[k] == '#' || remark && source[k] != 10;
            }
            return k;
        }

        /** The place behind a token; BAD behind a wrong one. */
        private int cutOne(int pos) {
            char c = source[pos];
            if (opensWord(c)) {
                int k = pos + 1;
                for (; k < size && isInWord(source[k]); k++) {
                    continue;
                }
                return k - pos > NAME ? wrong(pos) : take(WORD, pos, k, intern(source, pos, k));
            }
            if (c == '"') {
                int k = pos + 1;
                for (; k < size && source[k] >= 32 && source[k] <= 126 && source[k] != '"'; k++) {
                    continue;
                }
                boolean fine = k < size && source[k] == '"' && k - pos - 1 <= NAME;
                return fine ? take(QUOTED, pos, k + 1, intern(source, pos + 1, k)) : wrong(pos);
            }
            if (isDigit(c) || c == '-') {
                return cutNumber(pos);
            }
            return ALL_SIGNS.indexOf(c) >= 0 ? take(SIGN, pos, pos + 1, c) : wrong(pos);
        }

        private int take(int kind, int from, int to, int what) {
            token(kind, from, what);
            return to;
        }

        private int wrong(int pos) {
            token(WRONG, pos, 0);
            return BAD;
        }

        private int cutNumber(int pos) {
            boolean minus = source[pos] == '-';
            int k = minus ? pos + 1 : pos;
            int first = k;
            long v = 0;
            for (; k < size && isDigit(source[k]); k++) {
                v = Math.min(v * 10 + source[k] - '0', 1L << 40);
            }
            v = minus ? -v : v;
            if (k == first || v < -2147483648L || v > 2147483647L) {
                return wrong(pos);
            }
            token(NUMBER, pos, (int) v);
            return k < size && opensWord(source[k]) && source[k] != '<' ? wrong(k) : k;
        }

        // ---- grammar; what can't come is the token at which a function gives up

        boolean read(char[] from, int n) {
            cut(from, n);
            at = 0;
            mode = OUTSIDE;
            for (int k = 0; k <= tokens; k++) {
                if (mode == OUTSIDE && kinds[at] == END) {
                    return true;
                }
                if (!readOn()) {
                    break;
                }
            }
            if (fault == 0) {
                fault = kinds[at] == WRONG ? 1 : 2;
                place = places[at];
            }
            return false;
        }

        private boolean readOn() {
            switch (mode) {
                case OUTSIDE: return classHead();
                case IN_CLASS: return member();
                case IN_METHOD: return line();
                default:
                    mode = IN_METHOD;
                    int i = p.size - 1;
                    return wanted(i, FORMS.charAt(p.code[I_OP][i])) && takeSign(';');
            }
        }

        private boolean tooMuch() {
            fault = 3;
            place = places[at];
            return false;
        }

        private boolean isWord(int word) {
            return kinds[at] == WORD && values[at] == word;
        }

        private boolean isName() {
            return kinds[at] == WORD && values[at] >= RESERVED;
        }

        private boolean isSign(char c) {
            return kinds[at] == SIGN && values[at] == c;
        }

        private boolean takeSign(char c) {
            if (kinds[at] != SIGN || values[at] != c) {
                return false;
            }
            at++;
            return true;
        }

        /** The name that comes; BAD if none does. */
        private int takeName() {
            if (kinds[at] != WORD || values[at] < RESERVED) {
                return BAD;
            }
            return values[at++];
        }

        /** Where the token stands in the text; BAD in the library. */
        private int spot() {
            return source == library ? BAD : places[at];
        }

        private boolean classHead() {
            int flags = 0;
            for (int k = 0; k < tokens && (isWord(W_ABSTRACT) || isWord(W_EXCLUDED)); k++) {
                flags |= isWord(W_ABSTRACT) ? ABSTRACT_CLASS : EXCLUDED;
                at++;
            }
            if (!isWord(W_CLASS) && !isWord(W_INTERFACE)) {
                return false;
            }
            flags |= isWord(W_INTERFACE) ? INTERFACE : 0;
            at++;
            if (!isName()) {
                return false;
            }
            if (p.classes >= CLASSES) {
                return tooMuch();
            }
            int c = p.classes++;
            p.cls[C_NAME][c] = values[at];
            p.cls[C_PLACE][c] = spot();
            p.cls[C_FLAGS][c] = flags;
            p.cls[C_METHOD][c] = p.methods;
            p.cls[C_METHODS][c] = 0;
            p.cls[C_CLINIT][c] = BAD;
            at++;
            return heritage(c);
        }

        private boolean heritage(int c) {
            p.cls[C_EXT][c] = BAD;
            p.cls[C_IMPLS][c] = 0;
            if (isWord(W_EXTENDS)) {
                at++;
                p.cls[C_EXT_PLACE][c] = spot();
                p.cls[C_EXT][c] = takeName();
                if (p.cls[C_EXT][c] < 0) {
                    return false;
                }
            }
            boolean more = isWord(W_IMPLEMENTS);
            for (int k = 0; more && k <= 6; k++) {
                at++;
                if (!isName()) {
                    return false;
                }
                if (k == 6) {
                    return tooMuch();
                }
                p.impl[c * 12 + k * 2] = values[at];
                p.impl[c * 12 + k * 2 + 1] = spot();
                p.cls[C_IMPLS][c]++;
                at++;
                more = isSign(',');
            }
            mode = IN_CLASS;
            return takeSign('{');
        }

        private int flagHere() {
            if (kinds[at] != WORD) {
                return 0;
            }
            switch (values[at]) {
                case W_STATIC: return STATIC;
                case W_VOLATILE: return VOLATILE;
                case W_FINAL: return FINAL;
                case W_ABSTRACT: return ABSTRACT;
                case W_SYNCHRONIZED: return SYNCHRONIZED;
                default: return 0;
            }
        }

        private boolean member() {
            if (isSign('}')) {
                at++;
                mode = OUTSIDE;
                return true;
            }
            int flags = 0;
            for (int k = 0; k < tokens && flagHere() != 0; k++) {
                flags |= flagHere();
                at++;
            }
            if (isWord(W_FIELD)) {
                at++;
                return fieldLine(flags);
            }
            if (isWord(W_METHOD)) {
                at++;
                return methodHead(flags);
            }
            return false;
        }

        private boolean isType() {
            int v = values[at];
            return kinds[at] == WORD && (v >= RESERVED || v == W_INT || v == W_VOID);
        }

        /** A type as it is told: twice its word, and 1 for an array; BAD if none comes. */
        private int rawType() {
            if (!isType()) {
                return BAD;
            }
            int raw = values[at] * 2;
            at++;
            if (!isSign('[')) {
                return raw;
            }
            at++;
            return takeSign(']') ? raw + 1 : BAD;
        }

        /** Reads types in round brackets: how many; BAD if something can't come. */
        private int types(int[] to, int base) {
            if (!takeSign('(')) {
                return BAD;
            }
            if (takeSign(')')) {
                return 0;
            }
            for (int k = 0; k <= PARAMS && isType(); k++) {
                if (k == PARAMS) {
                    tooMuch();
                    return BAD;
                }
                to[base + k] = rawType();
                if (to[base + k] < 0) {
                    return BAD;
                }
                if (takeSign(')')) {
                    return k + 1;
                }
                if (!takeSign(',')) {
                    return BAD;
                }
            }
            return BAD;
        }

        private boolean fieldLine(int flags) {
            int raw = rawType();
            if (raw < 0 || !isName()) {
                return false;
            }
            if (p.fields >= FIELDS) {
                return tooMuch();
            }
            int f = p.fields++;
            p.fld[F_NAME][f] = values[at];
            p.fld[F_PLACE][f] = spot();
            p.fld[F_CLASS][f] = p.classes - 1;
            p.fld[F_TYPE][f] = raw;
            p.fld[F_FLAGS][f] = flags;
            at++;
            return takeSign(';');
        }

        private boolean methodHead(int flags) {
            int raw = rawType();
            if (raw < 0 || !isName()) {
                return false;
            }
            if (p.methods >= METHODS) {
                return tooMuch();
            }
            int m = p.methods++;
            p.cls[C_METHODS][p.classes - 1]++;
            p.mth[M_NAME][m] = values[at];
            p.mth[M_PLACE][m] = spot();
            p.mth[M_CLASS][m] = p.classes - 1;
            p.mth[M_TYPE][m] = raw;
            p.mth[M_FIRST][m] = p.size;
            p.mth[M_COUNT][m] = 0;
            p.mth[M_LABEL][m] = p.labels;
            p.mth[M_LABELS][m] = 0;
            p.mth[M_CATCH][m] = p.catches;
            p.mth[M_CATCHES][m] = 0;
            at++;
            p.mth[M_PARAMS][m] = types(p.params, m * PARAMS);
            if (p.mth[M_PARAMS][m] < 0) {
                return false;
            }
            boolean lines = isSign('{');
            boolean made = source == library && !lines && (flags & ABSTRACT) == 0;
            p.mth[M_FLAGS][m] = flags | (lines ? LINES : 0) | (made ? NATIVE : 0);
            mode = lines ? IN_METHOD : IN_CLASS;
            return takeSign(lines ? '{' : ';');
        }

        private boolean line() {
            if (isSign('}')) {
                at++;
                mode = IN_CLASS;
                return true;
            }
            if (isName()) {
                return labelLine();
            }
            if (isWord(W_CATCH)) {
                return catchLine();
            }
            return kinds[at] == WORD && values[at] < W_CODE && codeLine(values[at]);
        }

        private boolean labelLine() {
            int k = p.labels;
            if (k >= LABELS) {
                return false;
            }
            p.label[L_NAME][k] = values[at];
            p.label[L_PLACE][k] = spot();
            p.label[L_AT][k] = p.size;
            p.labels++;
            p.mth[M_LABELS][p.methods - 1]++;
            at++;
            return takeSign(':');
        }

        private boolean catchLine() {
            int m = p.methods - 1;
            if (p.mth[M_CATCHES][m] >= METHOD_CATCHES || p.catches >= CATCHES) {
                return tooMuch();
            }
            int k = p.catches++;
            p.mth[M_CATCHES][m]++;
            p.trap[T_PLACE][k] = spot();
            at++;
            for (int column = T_CLASS; column <= T_HANDLER; column++) {
                p.trap[column][k] = takeName();
                if (p.trap[column][k] < 0) {
                    return false;
                }
            }
            return takeSign(';');
        }

        private boolean codeLine(int op) {
            int m = p.methods - 1;
            boolean maker = op == NEW || op == ARRAY || op == LAMBDA;
            if (p.size >= CODE || p.mth[M_COUNT][m] >= METHOD_CODE || maker && makers() >= MAKERS) {
                return tooMuch();
            }
            int i = p.size++;
            p.mth[M_COUNT][m]++;
            p.code[I_OP][i] = op;
            p.code[I_PLACE][i] = spot();
            p.code[I_METHOD][i] = m;
            p.code[I_A][i] = 0;
            p.code[I_PARAMS][i] = 0;
            p.code[I_TARGET][i] = 0;
            p.code[I_NAMED][i] = BAD;
            p.code[I_MADE][i] = BAD;
            at++;
            mode = IN_LINE;
            return true;
        }

        private int makers() {
            int n = 0;
            for (int i = 0; i < p.size; i++) {
                int op = p.code[I_OP][i];
                n += op == NEW || op == ARRAY || op == LAMBDA ? 1 : 0;
            }
            return n;
        }

        /** Reads what an instruction wants: n a number, i two, s a string, l c names, t a type, f, m, d both. */
        private boolean wanted(int i, char form) {
            switch (form) {
                case '-': return true;
                case 'n': return number(i, I_A);
                case 'i': return number(i, I_A) && number(i, I_TYPE);
                case 's': return quoted(i);
                case 't':
                    p.code[I_TYPE][i] = rawType();
                    return p.code[I_TYPE][i] >= 0;
                case 'f': return memberName(i);
                case 'm': return methodName(i);
                default:
                    p.code[I_A][i] = takeName();
                    return p.code[I_A][i] >= 0 && (form != 'd' || methodName(i));
            }
        }

        private boolean number(int i, int column) {
            if (kinds[at] != NUMBER) {
                return false;
            }
            p.code[column][i] = values[at];
            p.code[I_TARGET][i] = p.code[I_A][i];
            at++;
            return true;
        }

        private boolean quoted(int i) {
            if (kinds[at] != QUOTED) {
                return false;
            }
            int s = 0;
            for (; s < p.strings && p.string[s] != values[at]; s++) {
                continue;
            }
            if (s >= STRINGS) {
                return tooMuch();
            }
            p.string[s] = values[at];
            p.strings = Math.max(p.strings, s + 1);
            p.code[I_TARGET][i] = s;
            at++;
            return true;
        }

        private boolean memberName(int i) {
            p.code[I_CLASS][i] = takeName();
            if (p.code[I_CLASS][i] < 0 || !takeSign('.')) {
                return false;
            }
            p.code[I_MEMBER][i] = takeName();
            return p.code[I_MEMBER][i] >= 0;
        }

        private boolean methodName(int i) {
            p.code[I_TYPE][i] = rawType();
            if (p.code[I_TYPE][i] < 0 || !memberName(i)) {
                return false;
            }
            p.code[I_PARAMS][i] = types(p.wants, i * PARAMS);
            return p.code[I_PARAMS][i] >= 0;
        }
    }

    /** Links a program that was read: names become numbers; the faults 10 to 13. */
    private static final class Linker {
        private final Program p;
        private final Reader names;
        int fault;
        int place;

        Linker(Program program, Reader reader) {
            p = program;
            names = reader;
        }

        boolean link(int size) {
            fault = 0;
            place = BAD;
            linkClasses();
            if (fault == 0) {
                resolveTypes();
                linkMembers();
            }
            if (fault == 0) {
                chooseAll();
                linkLines();
            }
            if (fault == 0) {
                findMain(size);
            }
            return fault == 0;
        }

        /** Of faults of one number the first place counts. */
        private void note(int number, int where) {
            if (fault == 0 || where < place) {
                fault = number;
                place = where;
            }
        }

        // ---- classes: fault 10

        private void linkClasses() {
            for (int c = 0; c < p.classes; c++) {
                p.above[c] = 0L;
                if (p.named(p.cls[C_NAME][c]) != c) {
                    note(10, p.cls[C_PLACE][c]);
                }
                linkUp(c);
                linkImplemented(c);
                if (p.isKind(c, INTERFACE) && p.isKind(c, ABSTRACT_CLASS)) {
                    note(10, p.cls[C_PLACE][c]);
                }
            }
            for (int k = 0; k < p.classes; k++) {
                for (int c = 0; c < p.classes; c++) {
                    if ((p.above[c] >>> k & 1L) != 0) {
                        p.above[c] |= p.above[k];
                    }
                }
            }
            for (int c = 0; c < p.classes; c++) {
                if ((p.above[c] >>> c & 1L) != 0) {
                    note(10, p.cls[C_PLACE][c]);
                }
                p.above[c] |= 1L << c | 1L << OBJECT;
                p.under[c] = 0L;
            }
            for (int c = 0; c < p.classes; c++) {
                for (int d = 0; d < p.classes; d++) {
                    p.under[d] |= (p.above[c] >>> d & 1L) << c;
                }
            }
        }

        private void linkUp(int c) {
            p.cls[C_UP][c] = c == OBJECT ? BAD : OBJECT;
            if (p.cls[C_EXT][c] < 0) {
                return;
            }
            int d = p.named(p.cls[C_EXT][c]);
            if (d < 0 || p.isKind(d, INTERFACE) || p.isKind(c, INTERFACE)) {
                note(10, p.cls[C_EXT_PLACE][c]);
            }
            if (d >= 0) {
                p.above[c] |= 1L << d;
                p.cls[C_UP][c] = d;
            }
        }

        private void linkImplemented(int c) {
            for (int k = 0; k < p.cls[C_IMPLS][c]; k++) {
                int d = p.named(p.impl[c * 12 + k * 2]);
                if (d < 0 || !p.isKind(d, INTERFACE)) {
                    note(10, p.impl[c * 12 + k * 2 + 1]);
                }
                if (d >= 0) {
                    p.above[c] |= 1L << d;
                }
            }
        }

        // ---- types and members: fault 11

        private int resolve(int raw) {
            boolean array = (raw & 1) != 0;
            int word = raw >> 1;
            if (word == W_INT) {
                return array ? INTS : INT;
            }
            if (word == W_VOID) {
                return array ? VOIDS : VOID;
            }
            int c = p.named(word);
            c = c < 0 ? UNKNOWN : c;
            return array ? INTS - 1 - c : c;
        }

        private static boolean isNoType(int type) {
            return type == UNKNOWN || type == INTS - 1 - UNKNOWN || type == VOIDS;
        }

        private void resolveTypes() {
            for (int f = 0; f < p.fields; f++) {
                p.fld[F_TYPE][f] = resolve(p.fld[F_TYPE][f]);
            }
            for (int m = 0; m < p.methods; m++) {
                p.mth[M_TYPE][m] = resolve(p.mth[M_TYPE][m]);
                for (int k = m * PARAMS; k < m * PARAMS + p.mth[M_PARAMS][m]; k++) {
                    p.params[k] = resolve(p.params[k]);
                }
                p.mth[M_SIGN][m] = signOf(p.mth[M_NAME][m], p.params, m * PARAMS, p.mth[M_PARAMS][m]);
                if (p.mth[M_NAME][m] == W_CLINIT) {
                    p.cls[C_CLINIT][p.mth[M_CLASS][m]] = m;
                }
            }
        }

        /** The first method with this name and these parameters; BAD without. */
        private int signOf(int name, int[] types, int base, int n) {
            for (int m = 0; m < p.methods; m++) {
                if (p.mth[M_NAME][m] == name && p.mth[M_PARAMS][m] == n) {
                    int k = 0;
                    for (; k < n && p.params[m * PARAMS + k] == types[base + k]; k++) {
                        continue;
                    }
                    if (k == n) {
                        return m;
                    }
                }
            }
            return BAD;
        }

        private void linkMembers() {
            for (int f = LIBRARY_FIELDS; f < p.fields; f++) {
                if (isFieldWrong(f)) {
                    note(11, p.fld[F_PLACE][f]);
                }
            }
            for (int m = LIBRARY_METHODS; m < p.methods; m++) {
                if (isTypeWrong(m) || isNameWrong(m) || isMethodWrong(m) || givesAnother(m)) {
                    note(11, p.mth[M_PLACE][m]);
                }
            }
            for (int c = LIBRARY_CLASSES; c < p.classes; c++) {
                if (isTorn(c)) {
                    note(11, p.cls[C_PLACE][c]);
                }
            }
        }

        private boolean isFieldWrong(int f) {
            int type = p.fld[F_TYPE][f];
            int flags = p.fld[F_FLAGS][f];
            if (isNoType(type) || type == VOID || names.isAngled(p.fld[F_NAME][f])) {
                return true;
            }
            for (int g = 0; g < f; g++) {
                if (p.fld[F_CLASS][g] == p.fld[F_CLASS][f] && p.fld[F_NAME][g] == p.fld[F_NAME][f]) {
                    return true;
                }
            }
            return (flags & (ABSTRACT | SYNCHRONIZED)) != 0
                || (flags & FINAL) != 0 && (flags & VOLATILE) != 0
                || (flags & STATIC) == 0 && p.isKind(p.fld[F_CLASS][f], INTERFACE);
        }

        private boolean isTypeWrong(int m) {
            if (isNoType(p.mth[M_TYPE][m])) {
                return true;
            }
            for (int k = m * PARAMS; k < m * PARAMS + p.mth[M_PARAMS][m]; k++) {
                if (isNoType(p.params[k]) || p.params[k] == VOID) {
                    return true;
                }
            }
            return false;
        }

        private boolean isNameWrong(int m) {
            int c = p.mth[M_CLASS][m];
            for (int k = p.cls[C_METHOD][c]; k < m; k++) {
                if (p.mth[M_SIGN][k] == p.mth[M_SIGN][m]) {
                    return true;
                }
            }
            boolean gives = p.mth[M_TYPE][m] != VOID;
            if (p.mth[M_NAME][m] == W_INIT) {
                return gives || p.hasFlag(m, STATIC | ABSTRACT | SYNCHRONIZED) || p.isKind(c, INTERFACE);
            }
            if (p.mth[M_NAME][m] == W_CLINIT) {
                return gives || !p.hasFlag(m, STATIC) || p.hasFlag(m, SYNCHRONIZED) || p.mth[M_PARAMS][m] > 0;
            }
            return names.isAngled(p.mth[M_NAME][m]);
        }

        private boolean isMethodWrong(int m) {
            boolean lines = p.hasFlag(m, LINES);
            int c = p.mth[M_CLASS][m];
            if (p.hasFlag(m, VOLATILE | FINAL)) {
                return true;
            }
            if (!p.hasFlag(m, ABSTRACT)) {
                return !lines;
            }
            return lines || p.hasFlag(m, STATIC | SYNCHRONIZED) || !p.isKind(c, INTERFACE | ABSTRACT_CLASS);
        }

        private boolean isVirtual(int m) {
            return !p.hasFlag(m, STATIC) && !names.isAngled(p.mth[M_NAME][m]);
        }

        private boolean isUnlike(int m, int k) {
            return p.mth[M_SIGN][m] == p.mth[M_SIGN][k] && p.mth[M_TYPE][m] != p.mth[M_TYPE][k];
        }

        /** Whether a class above has a method of its name and parameters that gives another type. */
        private boolean givesAnother(int m) {
            int c = p.mth[M_CLASS][m];
            for (int k = 0; isVirtual(m) && k < p.methods; k++) {
                int d = p.mth[M_CLASS][k];
                if (d != c && p.fits(c, d) && isVirtual(k) && isUnlike(m, k)) {
                    return true;
                }
            }
            return false;
        }

        /** Whether two classes above have such methods that give unlike types. */
        private boolean isTorn(int c) {
            for (int m = 0; m < p.methods; m++) {
                int d = p.mth[M_CLASS][m];
                if (d != c && p.fits(c, d) && isVirtual(m) && isTornBy(c, m)) {
                    return true;
                }
            }
            return false;
        }

        private boolean isTornBy(int c, int m) {
            for (int k = 0; k < m; k++) {
                int d = p.mth[M_CLASS][k];
                if (d != c && d != p.mth[M_CLASS][m] && p.fits(c, d) && isVirtual(k) && isUnlike(m, k)) {
                    return true;
                }
            }
            return false;
        }

        // ---- what is selected

        private void chooseAll() {
            for (int c = 0; c < p.classes; c++) {
                for (int s = 0; s < p.methods; s++) {
                    p.choice[c * METHODS + s] = p.mth[M_SIGN][s] == s ? choose(c, s) : BAD;
                }
            }
        }

        private int choose(int c, int sign) {
            for (int d = c, n = 0; d >= 0 && n < CLASSES; d = p.cls[C_UP][d], n++) {
                int m = p.own(d, sign);
                if (m >= 0 && !p.hasFlag(m, STATIC)) {
                    return p.hasFlag(m, ABSTRACT) ? BAD : m;
                }
            }
            int only = BAD;
            for (int d = 0; d < p.classes; d++) {
                if (offers(c, d, sign) && !isHidden(c, d, sign)) {
                    if (only >= 0) {
                        return BAD;
                    }
                    only = p.own(d, sign);
                }
            }
            return only;
        }

        /** Whether d is an interface that c is below, with a method of that sign that can be selected. */
        private boolean offers(int c, int d, int sign) {
            int m = p.isKind(d, INTERFACE) && p.fits(c, d) ? p.own(d, sign) : BAD;
            return m >= 0 && !p.hasFlag(m, STATIC | ABSTRACT);
        }

        private boolean isHidden(int c, int d, int sign) {
            for (int e = 0; e < p.classes; e++) {
                if (e != d && p.fits(e, d) && offers(c, e, sign)) {
                    return true;
                }
            }
            return false;
        }

        // ---- labels, instructions, catches: fault 12

        private void linkLines() {
            for (int m = 0; m < p.methods; m++) {
                linkLabels(m);
                linkCatches(m);
            }
            for (int i = 0; i < p.size; i++) {
                if (isLineWrong(i)) {
                    note(12, p.code[I_PLACE][i]);
                }
            }
        }

        private void linkLabels(int m) {
            int from = p.mth[M_LABEL][m];
            for (int k = from; k < from + p.mth[M_LABELS][m]; k++) {
                if (labelOf(m, p.label[L_NAME][k]) != k) {
                    note(12, p.label[L_PLACE][k]);
                }
            }
        }

        /** The first label of a name in a method. */
        private int labelOf(int m, int name) {
            int from = p.mth[M_LABEL][m];
            for (int k = from; k < from + p.mth[M_LABELS][m]; k++) {
                if (p.label[L_NAME][k] == name) {
                    return k;
                }
            }
            return BAD;
        }

        private void linkCatches(int m) {
            int from = p.mth[M_CATCH][m];
            for (int k = from; k < from + p.mth[M_CATCHES][m]; k++) {
                int c = p.named(p.trap[T_CLASS][k]);
                boolean fine = c >= 0 && p.fits(c, THROWABLE);
                p.trap[T_CLASS][k] = c;
                for (int column = T_FROM; column <= T_HANDLER; column++) {
                    int at = labelOf(m, p.trap[column][k]);
                    fine = fine && at >= 0;
                    p.trap[column][k] = at < 0 ? BAD : p.label[L_AT][at];
                }
                if (!fine || p.trap[T_FROM][k] >= p.trap[T_TO][k]) {
                    note(12, p.trap[T_PLACE][k]);
                }
            }
        }

        private boolean isLineWrong(int i) {
            int op = p.code[I_OP][i];
            switch (FORMS.charAt(op)) {
                case 'n':
                case 'i': return op != PUSH && (p.code[I_A][i] < 0 || p.code[I_A][i] >= LOCALS);
                case 'l': return isJumpWrong(i);
                case 'f': return isFieldUseWrong(i, op);
                case 'c': return isNewWrong(i);
                case 't': return isTypeUseWrong(i, op);
                case 'm': return isCallWrong(i, op);
                case 'd': return isCallWrong(i, op) || isLambdaWrong(i);
                default: return false;
            }
        }

        private boolean isJumpWrong(int i) {
            int k = labelOf(p.code[I_METHOD][i], p.code[I_A][i]);
            p.code[I_TARGET][i] = k < 0 ? BAD : p.label[L_AT][k];
            return k < 0;
        }

        private boolean isNewWrong(int i) {
            int c = p.named(p.code[I_A][i]);
            p.code[I_TARGET][i] = c;
            return c < 0 || p.isKind(c, INTERFACE | ABSTRACT_CLASS);
        }

        private boolean isTypeUseWrong(int i, int op) {
            int type = resolve(p.code[I_TYPE][i]);
            if (isNoType(type) || type == VOID || type == INT && op != ARRAY || op == ARRAY && type < 0) {
                return true;
            }
            p.code[I_TARGET][i] = op != ARRAY ? type : type == INT ? INTS : INTS - 1 - type;
            return false;
        }

        private int fieldOf(int c, int name) {
            for (int d = c, n = 0; d >= 0 && n < CLASSES; d = p.cls[C_UP][d], n++) {
                for (int f = 0; f < p.fields; f++) {
                    if (p.fld[F_CLASS][f] == d && p.fld[F_NAME][f] == name) {
                        return f;
                    }
                }
            }
            return BAD;
        }

        private boolean isFieldUseWrong(int i, int op) {
            int c = p.named(p.code[I_CLASS][i]);
            int f = c < 0 ? BAD : fieldOf(c, p.code[I_MEMBER][i]);
            p.code[I_NAMED][i] = c;
            p.code[I_TARGET][i] = f;
            if (f < 0) {
                return true;
            }
            boolean fixed = (p.fld[F_FLAGS][f] & STATIC) != 0;
            if (fixed != (op == GET_STATIC || op == PUT_STATIC)) {
                return true;
            }
            if ((p.fld[F_FLAGS][f] & FINAL) == 0 || op == GET || op == GET_STATIC) {
                return false;
            }
            int m = p.code[I_METHOD][i];
            return p.mth[M_CLASS][m] != p.fld[F_CLASS][f] || p.mth[M_NAME][m] != (op == PUT ? W_INIT : W_CLINIT);
        }

        private boolean isCallWrong(int i, int op) {
            int c = p.named(p.code[I_CLASS][i]);
            for (int k = i * PARAMS; k < i * PARAMS + p.code[I_PARAMS][i]; k++) {
                p.wants[k] = resolve(p.wants[k]);
            }
            int sign = signOf(p.code[I_MEMBER][i], p.wants, i * PARAMS, p.code[I_PARAMS][i]);
            int m = c < 0 || sign < 0 ? BAD : p.find(c, sign);
            p.code[I_NAMED][i] = c;
            p.code[I_TARGET][i] = m;
            if (m < 0 || p.mth[M_TYPE][m] != resolve(p.code[I_TYPE][i])) {
                return true;
            }
            boolean angled = names.isAngled(p.code[I_MEMBER][i]);
            boolean fixed = p.hasFlag(m, STATIC);
            if (op == SPECIAL) {
                boolean here = p.hasFlag(p.code[I_METHOD][i], STATIC) && p.code[I_MEMBER][i] != W_INIT;
                return fixed || p.hasFlag(m, ABSTRACT) || here;
            }
            return angled || fixed == (op == VIRTUAL) || op == LAMBDA && p.hasFlag(m, NATIVE);
        }

        private boolean isLambdaWrong(int i) {
            int c = p.named(p.code[I_A][i]);
            int made = p.isKind(c, INTERFACE) ? lone(c) : BAD;
            p.code[I_NAMED][i] = c;
            p.code[I_MADE][i] = made;
            if (made < 0) {
                return true;
            }
            int m = p.code[I_TARGET][i];
            int n = p.mth[M_PARAMS][made];
            int more = p.mth[M_PARAMS][m] - n;
            if (more < 0 || p.mth[M_TYPE][m] != p.mth[M_TYPE][made]) {
                return true;
            }
            for (int k = 0; k < n; k++) {
                if (p.params[m * PARAMS + more + k] != p.params[made * PARAMS + k]) {
                    return true;
                }
            }
            return false;
        }

        /** The abstract method that lambdas of an interface are made for; BAD if it is not just one. */
        private int lone(int c) {
            int made = BAD;
            for (int m = 0; m < p.methods; m++) {
                boolean open = p.hasFlag(m, ABSTRACT) && p.fits(c, p.mth[M_CLASS][m])
                    && p.select(c, p.mth[M_SIGN][m]) < 0;
                if (open && made >= 0 && p.mth[M_SIGN][made] != p.mth[M_SIGN][m]) {
                    return BAD;
                }
                if (open && made < 0) {
                    made = m;
                }
            }
            return made;
        }

        // ---- MAIN: fault 13

        private void findMain(int size) {
            int sign = signOf(W_MAIN, p.params, 0, 0);
            for (int c = LIBRARY_CLASSES; sign >= 0 && c < p.classes; c++) {
                int m = isLeftOut(c) ? BAD : p.own(c, sign);
                if (m >= 0 && p.hasFlag(m, STATIC) && p.mth[M_TYPE][m] == VOID) {
                    p.main = m;
                    return;
                }
            }
            note(13, size);
        }

        /** Whether a class is excluded or extends one that is. */
        private boolean isLeftOut(int c) {
            for (int d = c, n = 0; d >= 0 && n < CLASSES; d = p.cls[C_UP][d], n++) {
                if (p.isKind(d, EXCLUDED)) {
                    return true;
                }
            }
            return false;
        }
    }

    /** Checks methods: heights, rows of monitors, sets of kinds; and tells which ways there are. */
    private static final class Checker {
        // kinds as bits of the first word of a set; arrays of classes are the second word
        private static final long K_INT = 1L << 43;
        private static final long K_NULL = 1L << 44;
        private static final long K_NOTHING = 1L << 45;
        private static final long K_INTS = 1L << 46;
        private static final long K_CLASSES = K_INT - 1;

        private final Program p;
        /** The row of monitors before each instruction. */
        final int[] rows = new int[CODE * ROW];
        private final long[] kinds = new long[CODE * PLACES * 2];
        /** For each instruction those of its method, by their offset, to which a way leads from it. */
        private final long[] ways = new long[CODE * 2];
        private final int[] from = new int[PLACES];
        private final int[] looked = new int[CODE];
        private final long[] made = new long[2];
        private final long[] wanted = new long[2];
        private boolean behind;
        private boolean grew;
        int fault;
        int place;

        Checker(Program program) {
            p = program;
        }

        boolean check() {
            fault = 0;
            place = BAD;
            for (int m = 0; m < p.methods && fault == 0; m++) {
                if (p.hasFlag(m, LINES)) {
                    lookAtHeights(m);
                }
                if (fault == 0 && p.hasFlag(m, LINES)) {
                    fillSets(m);
                    lookAtSets(m);
                    fillWays(m);
                }
            }
            return fault == 0;
        }

        private void note(int number, int where) {
            if (fault == 0) {
                fault = number;
                place = where;
            }
        }

        // ---- heights and rows

        private void lookAtHeights(int m) {
            int first = p.mth[M_FIRST][m];
            int n = p.mth[M_COUNT][m];
            for (int i = first; i < first + n; i++) {
                p.code[I_HEIGHT][i] = BAD;
                looked[i] = 0;
            }
            behind = n == 0;
            if (n > 0) {
                p.code[I_HEIGHT][first] = 0;
                p.code[I_ROW][first] = 0;
            }
            for (int turn = 0; turn < n && fault == 0; turn++) {
                int i = first;
                for (; i < first + n && (looked[i] != 0 || p.code[I_HEIGHT][i] < 0); i++) {
                    continue;
                }
                if (i < first + n) {
                    looked[i] = 1;
                    lookAt(i, m);
                }
            }
            if (behind) {
                note(20, p.mth[M_PLACE][m]);
            }
        }

        private void lookAt(int i, int m) {
            int op = p.code[I_OP][i];
            int h = p.code[I_HEIGHT][i];
            int after = h - p.takes(i) + p.leaves(i);
            int row = p.code[I_ROW][i];
            int where = p.code[I_PLACE][i];
            if (h < p.takes(i) || after > PLACES - LOCALS) {
                note(21, where);
            }
            if (op == EXIT && row == 0 || op == ENTER && row == ROW) {
                note(25, where);
            }
            if ((op == RETURN || op == GIVE) && row > 0) {
                note(27, where);
            }
            int rowAfter = op == ENTER ? row + 1 : op == EXIT ? row - 1 : row;
            if (p.goesOn(op)) {
                arrive(i, i + 1, after, rowAfter);
            }
            if (p.jumps(op)) {
                arrive(i, p.code[I_TARGET][i], after, rowAfter);
            }
            int c = p.mth[M_CATCH][m];
            for (int k = c; k < c + p.mth[M_CATCHES][m]; k++) {
                if (p.within(k, i)) {
                    arrive(i, p.trap[T_HANDLER][k], 1, row);
                }
            }
        }

        /** An instruction goes on at another one, with a height and so many monitors. */
        private void arrive(int i, int to, int height, int row) {
            int m = p.code[I_METHOD][i];
            if (fault != 0 || to >= p.mth[M_FIRST][m] + p.mth[M_COUNT][m]) {
                behind = behind || fault == 0;
                return;
            }
            int common = Math.min(row, p.code[I_ROW][i]);
            if (p.code[I_HEIGHT][to] < 0) {
                p.code[I_HEIGHT][to] = height;
                p.code[I_ROW][to] = row;
                System.arraycopy(rows, i * ROW, rows, to * ROW, common);
                if (row > common) {
                    rows[to * ROW + common] = i;
                }
                return;
            }
            boolean same = p.code[I_ROW][to] == row && (row <= common || rows[to * ROW + common] == i);
            for (int k = 0; same && k < common; k++) {
                same = rows[to * ROW + k] == rows[i * ROW + k];
            }
            if (p.code[I_HEIGHT][to] != height) {
                note(22, p.code[I_PLACE][i]);
            } else if (!same) {
                note(26, p.code[I_PLACE][i]);
            }
        }

        // ---- sets of kinds

        private static int at(int i, int place) {
            return (i * PLACES + place) * 2;
        }

        private static long firstWord(int type) {
            return type == INT ? K_INT : type == INTS ? K_INTS : type >= 0 && type < CLASSES ? 1L << type : 0L;
        }

        private static long secondWord(int type) {
            return type < INTS ? 1L << INTS - 1 - type : 0L;
        }

        private void addKind(int at, int type) {
            kinds[at] |= firstWord(type);
            kinds[at + 1] |= secondWord(type);
        }

        private void fillSets(int m) {
            int first = p.mth[M_FIRST][m];
            int n = p.mth[M_COUNT][m];
            Arrays.fill(kinds, at(first, 0), at(first + n, 0), 0L);
            int q = 0;
            if (!p.hasFlag(m, STATIC)) {
                addKind(at(first, q++), p.mth[M_CLASS][m]);
            }
            for (int k = 0; k < p.mth[M_PARAMS][m]; k++) {
                addKind(at(first, q++), p.params[m * PARAMS + k]);
            }
            for (; q < LOCALS; q++) {
                kinds[at(first, q)] |= K_NOTHING;
            }
            grew = true;
            for (int turn = 0; turn < FAR && grew; turn++) {
                grew = false;
                for (int i = first; i < first + n; i++) {
                    if (p.code[I_HEIGHT][i] >= 0) {
                        passOn(i, m);
                    }
                }
            }
        }

        private void passOn(int i, int m) {
            int op = p.code[I_OP][i];
            p.shape(i, from);
            fillMade(i, op);
            if (p.goesOn(op)) {
                flowTo(i, i + 1);
            }
            if (p.jumps(op)) {
                flowTo(i, p.code[I_TARGET][i]);
            }
            int c = p.mth[M_CATCH][m];
            for (int k = c; k < c + p.mth[M_CATCHES][m]; k++) {
                if (p.within(k, i)) {
                    int to = p.trap[T_HANDLER][k];
                    grew |= merge(kinds, at(to, 0), kinds, at(i, 0), LOCALS * 2);
                    grew |= addBit(kinds, at(to, LOCALS), p.trap[T_CLASS][k]);
                }
            }
        }

        private void flowTo(int i, int to) {
            int places = p.behind(i);
            for (int q = 0; q < places; q++) {
                if (from[q] < 0) {
                    grew |= merge(kinds, at(to, q), made, 0, 2);
                } else {
                    grew |= merge(kinds, at(to, q), kinds, at(i, from[q]), 2);
                }
            }
        }

        /** The kinds of what an instruction makes. */
        private void fillMade(int i, int op) {
            int target = p.code[I_TARGET][i];
            made[0] = 0L;
            made[1] = 0L;
            if (op == NULL) {
                made[0] = K_NULL;
                return;
            }
            if (op == ELEMENT) {
                int array = at(i, LOCALS + Math.max(0, p.code[I_HEIGHT][i] - 2));
                made[0] = ((kinds[array] & K_INTS) != 0 ? K_INT : 0L) | kinds[array + 1];
                return;
            }
            int type = INT;
            if (op == TEXT_OF) {
                type = STRING;
            } else if (op == GET || op == GET_STATIC) {
                type = p.fld[F_TYPE][target];
            } else if (op == NEW || op == ARRAY || op == CAST_TO) {
                type = target;
            } else if (op == VIRTUAL || op == SPECIAL || op == CALL) {
                type = p.mth[M_TYPE][target];
            } else if (op == LAMBDA) {
                type = p.code[I_NAMED][i];
            }
            made[0] = firstWord(type);
            made[1] = secondWord(type);
        }

        // ---- faults of sets

        private void lookAtSets(int m) {
            int first = p.mth[M_FIRST][m];
            for (int i = first; i < first + p.mth[M_COUNT][m] && fault == 0; i++) {
                int op = p.code[I_OP][i];
                if (p.code[I_HEIGHT][i] < 0) {
                    continue;
                }
                boolean gives = p.mth[M_TYPE][m] != VOID;
                if (!areKindsFine(i, op)) {
                    note(23, p.code[I_PLACE][i]);
                } else if (op == RETURN && gives || op == GIVE && !gives) {
                    note(24, p.code[I_PLACE][i]);
                }
            }
        }

        private boolean areKindsFine(int i, int op) {
            int base = LOCALS + p.code[I_HEIGHT][i] - p.takes(i);
            int target = p.code[I_TARGET][i];
            int named = p.code[I_NAMED][i];
            switch (op) {
                case LOAD: return (kinds[at(i, p.code[I_A][i])] & K_NOTHING) == 0;
                case INC: return areAll(i, p.code[I_A][i], INT);
                case GET: return areAll(i, base, named);
                case PUT: return areAll(i, base, named) && areAll(i, base + 1, p.fld[F_TYPE][target]);
                case PUT_STATIC: return areAll(i, base, p.fld[F_TYPE][target]);
                case ELEMENT: return isArray(i, base) && areAll(i, base + 1, INT);
                case SET_ELEMENT: return isArray(i, base) && areAll(i, base + 1, INT) && isElement(i, base);
                case LENGTH: return isArray(i, base);
                case VIRTUAL:
                case SPECIAL: return areAll(i, base, named) && areValues(i, base + 1, target, p.takes(i) - 1);
                case CALL:
                case LAMBDA: return areValues(i, base, target, p.takes(i));
                case THROW: return areAll(i, base, THROWABLE);
                case GIVE:
                    int type = p.mth[M_TYPE][p.code[I_METHOD][i]];
                    return type == VOID || areAll(i, base, type);
                default: return areSimple(i, op, base);
            }
        }

        /** Of instructions that take numbers alone, or references alone, or anything. */
        private boolean areSimple(int i, int op, int base) {
            boolean numbers = op >= ADD && op <= SHR || op >= IF_EQ && op <= CMP_LE || op == ARRAY;
            boolean references = op >= SAME && op <= IF_SOME || op == CAST_TO || op == IS || op == ENTER || op == EXIT;
            for (int k = 0; k < p.takes(i); k++) {
                if (numbers && !areAll(i, base + k, INT) || references && !areReferences(i, base + k)) {
                    return false;
                }
            }
            return true;
        }

        private boolean areReferences(int i, int place) {
            return (kinds[at(i, place)] & (K_INT | K_NOTHING)) == 0;
        }

        /** Whether each kind in a place is int, or NULL or below a type. */
        private boolean areAll(int i, int place, int type) {
            fillWanted(type);
            int at = at(i, place);
            return (kinds[at] & ~wanted[0]) == 0 && (kinds[at + 1] & ~wanted[1]) == 0;
        }

        private void fillWanted(int type) {
            wanted[0] = type == INT ? K_INT : K_NULL;
            wanted[1] = 0L;
            if (type >= 0 && type < CLASSES) {
                wanted[0] |= p.under[type];
            }
            if (type == OBJECT || type == INTS) {
                wanted[0] |= K_INTS;
            }
            if (type == OBJECT) {
                wanted[1] = K_CLASSES;
            }
            if (type < INTS) {
                wanted[1] = p.under[INTS - 1 - type];
            }
        }

        private boolean isArray(int i, int place) {
            int at = at(i, place);
            return (kinds[at] & ~(K_NULL | K_INTS)) == 0 && ((kinds[at] & K_INTS) == 0 || kinds[at + 1] == 0);
        }

        /** Whether the value of 45 may stand in the array's elements. */
        private boolean isElement(int i, int base) {
            int array = at(i, base);
            if ((kinds[array] & K_INTS) != 0) {
                return areAll(i, base + 2, INT);
            }
            return kinds[array + 1] == 0 || areReferences(i, base + 2);
        }

        private boolean areValues(int i, int base, int m, int n) {
            for (int k = 0; k < n; k++) {
                if (!areAll(i, base + k, p.params[m * PARAMS + k])) {
                    return false;
                }
            }
            return true;
        }

        // ---- what is told

        boolean hasKind(int i, int place, int c) {
            int at = at(i, place);
            if (c == -5) {
                return (kinds[at] & K_INTS) != 0 || kinds[at + 1] != 0;
            }
            long bit = c >= 0 ? 1L << c : c == -2 ? K_INT : c == -3 ? K_NULL : K_NOTHING;
            return (kinds[at] & bit) != 0;
        }

        // ---- ways

        private void fillWays(int m) {
            int first = p.mth[M_FIRST][m];
            int n = p.mth[M_COUNT][m];
            Arrays.fill(ways, first * 2, (first + n) * 2, 0L);
            for (int i = first; i < first + n; i++) {
                if (p.code[I_HEIGHT][i] >= 0) {
                    fillNext(i, m, ways, i * 2);
                }
            }
            for (int k = 0; k < n; k++) {
                for (int i = first; i < first + n; i++) {
                    if (hasBit(ways, i * 2, k)) {
                        merge(ways, i * 2, ways, (first + k) * 2, 2);
                    }
                }
            }
        }

        /** Adds the offsets of the instructions at which one goes on. */
        void fillNext(int i, int m, long[] row, int at) {
            int op = p.code[I_OP][i];
            int first = p.mth[M_FIRST][m];
            if (p.goesOn(op)) {
                addBit(row, at, i + 1 - first);
            }
            if (p.jumps(op)) {
                addBit(row, at, p.code[I_TARGET][i] - first);
            }
            int c = p.mth[M_CATCH][m];
            for (int k = c; k < c + p.mth[M_CATCHES][m]; k++) {
                if (p.within(k, i)) {
                    addBit(row, at, p.trap[T_HANDLER][k] - first);
                }
            }
        }

        /** Whether a way of a step or more leads from one instruction to another one of the method. */
        boolean leads(int i, int j) {
            int first = p.mth[M_FIRST][p.code[I_METHOD][i]];
            return hasBit(ways, i * 2, j - first);
        }

        boolean comesBack(int i) {
            return leads(i, i);
        }
    }

    /** What may be: instances, objects, and what every place, field and element may hold. */
    private static final class Flow {
        // columns of instances, of objects
        private static final int N_METHOD = 0;
        private static final int N_CONTEXT = 1;
        private static final int N_BASE = 2;
        private static final int N_NEXT = 3;
        private static final int O_SITE = 0;
        private static final int O_CONTEXT = 1;
        private static final int O_NEXT = 2;
        private static final int O_TYPE = 3;
        // the parts of what is at hand while an instruction is looked at
        private static final int MADE = 0;
        private static final int THROWN = WORDS;
        // something that nodes read is new; a node is to be looked at
        private static final int MOVED = 1;
        private static final int WOKEN = 2;
        // columns of nodes
        private static final int D_OWNER = 0;
        private static final int D_NATIVES = 1;
        private static final int D_DIRTY = 2;

        private final Program p;
        boolean done;
        private int policy;
        private int granted;
        private boolean full;
        /** What is new in this turn: bits MOVED, WOKEN. */
        private int news;
        int instances;
        final int[][] inst = new int[4][INSTANCES];
        /** The first instance of a method; behind that the first object of a site. */
        private final int[] heads = new int[METHODS + SITES];
        /** A node is an instruction of an instance. */
        int nodes;
        final int[][] nodeTable = new int[3][NODES];
        int objects;
        final int[][] obj = new int[4][OBJECTS];
        final long[] sets = new long[NODES * PLACES * WORDS];
        /** Fields, elements, what lambdas have; the last row is of static fields. */
        final long[] slots = new long[(OBJECTS + 1) * FIELDS * WORDS];
        private final long[] ends = new long[INSTANCES * 2 * WORDS];
        /** Instances called, then instances started. */
        final long[] leads = new long[NODES * 2 * INSTANCE_WORDS];
        /** Classes that a node lets begin; last all that begin. */
        final long[] begun = new long[NODES + 1];
        private final int[] open = new int[CODE];
        /** Instances started for an object; last the objects. */
        final long[] started = new long[OBJECTS * INSTANCE_WORDS + WORDS];
        private final long[] now = new long[2 * WORDS];
        private final int[] from = new int[PLACES];

        Flow(Program program) {
            p = program;
            Arrays.fill(heads, BAD);
        }

        // ---- places in the rows

        static int at(int node, int place) {
            return (node * PLACES + place) * WORDS;
        }

        static int slot(int o, int f) {
            return (o * FIELDS + f) * WORDS;
        }

        private static int gives(int k) {
            return k * 2 * WORDS;
        }

        private static int letsGo(int k) {
            return (k * 2 + 1) * WORDS;
        }

        static int callsAt(int node) {
            return node * 2 * INSTANCE_WORDS;
        }

        static int startsAt(int node) {
            return (node * 2 + 1) * INSTANCE_WORDS;
        }

        int instructionOf(int node) {
            int k = nodeTable[D_OWNER][node];
            return p.mth[M_FIRST][inst[N_METHOD][k]] + node - inst[N_BASE][k];
        }

        int nodeOf(int k, int i) {
            return inst[N_BASE][k] + i - p.mth[M_FIRST][inst[N_METHOD][k]];
        }

        // ---- the least solution

        /** False: there would be too much by this policy. */
        boolean solve(int how, int limit) {
            policy = how;
            granted = limit;
            forget();
            instanceAt(p.main, NONE);
            letBegin(BAD, p.mth[M_CLASS][p.main]);
            for (int turn = 0; turn < FAR && news != 0 && !full; turn++) {
                boolean again = (news & MOVED) != 0;
                news = 0;
                for (int at = 0; at < nodes && !full; at++) {
                    if (nodeTable[D_DIRTY][at] != 0 || again && reads(at)) {
                        nodeTable[D_DIRTY][at] = 0;
                        lookAt(at);
                    }
                }
            }
            return !full;
        }

        private void forget() {
            Arrays.fill(sets, 0, nodes * PLACES * WORDS, 0L);
            Arrays.fill(slots, 0, slot(objects, 0), 0L);
            Arrays.fill(slots, slot(OBJECTS, 0), slot(OBJECTS + 1, 0), 0L);
            Arrays.fill(ends, 0, gives(instances), 0L);
            Arrays.fill(leads, 0, nodes * 2 * INSTANCE_WORDS, 0L);
            Arrays.fill(begun, 0, nodes, 0L);
            begun[NODES] = 0L;
            Arrays.fill(nodeTable[D_NATIVES], 0, nodes, 0);
            Arrays.fill(nodeTable[D_DIRTY], 0, nodes, 0);
            Arrays.fill(open, 0);
            Arrays.fill(started, 0, objects * INSTANCE_WORDS, 0L);
            Arrays.fill(started, OBJECTS * INSTANCE_WORDS, OBJECTS * INSTANCE_WORDS + WORDS, 0L);
            for (int k = 0; k < instances; k++) {
                heads[inst[N_METHOD][k]] = BAD;
            }
            for (int o = 0; o < objects; o++) {
                heads[METHODS + obj[O_SITE][o]] = BAD;
            }
            instances = 0;
            nodes = 0;
            objects = 0;
            full = false;
            news = WOKEN;
        }

        /** Whether a node depends on more than what comes to it. */
        private boolean reads(int node) {
            int op = p.code[I_OP][instructionOf(node)];
            return op >= GET && op <= ELEMENT || op >= VIRTUAL && op <= CALL;
        }

        /** Adds a set of objects to another one: whether that grew. */
        private boolean join(long[] to, int a, long[] more, int b) {
            return merge(to, a, more, b, objects + 63 >> 6);
        }

        private boolean joinLocals(int to, int node) {
            boolean grew = false;
            for (int q = 0; q < LOCALS; q++) {
                grew |= join(sets, at(to, q), sets, at(node, q));
            }
            return grew;
        }

        private void moved(boolean grew) {
            news |= grew ? MOVED : 0;
        }

        private void wake(int node) {
            nodeTable[D_DIRTY][node] = 1;
            news |= WOKEN;
        }

        int findInstance(int m, int context) {
            int k = m < 0 ? BAD : heads[m];
            for (int n = 0; k >= 0 && n < INSTANCES; n++) {
                if (inst[N_CONTEXT][k] == context) {
                    return k;
                }
                k = inst[N_NEXT][k];
            }
            return BAD;
        }

        int nextInstance(int m, int k) {
            return k < 0 ? heads[m] : inst[N_NEXT][k];
        }

        private int instanceAt(int m, int context) {
            int k = findInstance(m, context);
            int n = p.mth[M_COUNT][m];
            if (k >= 0 || full) {
                return k;
            }
            if (instances >= INSTANCES || nodes + n > NODES || policy != 0 && instances >= granted) {
                full = true;
                return BAD;
            }
            k = instances++;
            inst[N_METHOD][k] = m;
            inst[N_CONTEXT][k] = context;
            inst[N_BASE][k] = nodes;
            inst[N_NEXT][k] = heads[m];
            heads[m] = k;
            for (int j = 0; j < n; j++) {
                nodeTable[D_OWNER][nodes + j] = k;
                nodeTable[D_DIRTY][nodes + j] = 1;
            }
            nodes += n;
            news |= WOKEN;
            return k;
        }

        int findObject(int site, int context) {
            int o = heads[METHODS + site];
            for (int n = 0; o >= 0 && n < OBJECTS; n++) {
                if (obj[O_CONTEXT][o] == context) {
                    return o;
                }
                o = obj[O_NEXT][o];
            }
            return BAD;
        }

        private int objectAt(int site, int context) {
            int o = findObject(site, context);
            if (o >= 0 || full) {
                return o;
            }
            if (objects >= OBJECTS) {
                full = true;
                return BAD;
            }
            o = objects++;
            obj[O_SITE][o] = site;
            obj[O_CONTEXT][o] = context;
            obj[O_NEXT][o] = heads[METHODS + site];
            obj[O_TYPE][o] = p.typeOf(site);
            heads[METHODS + site] = o;
            return o;
        }

        /** The context of what an instruction calls: by the site of its receiver, if it has one. */
        int contextFor(int i, int site, int caller) {
            if (policy < 2) {
                return policy == 0 ? NONE : i;
            }
            if (site < 0) {
                return caller;
            }
            if (policy == 2) {
                return site;
            }
            return site < STRING_SITES ? p.mth[M_CLASS][p.code[I_METHOD][site]] : p.typeOf(site);
        }

        /** The context of what an instance makes. */
        int contextIn(int caller) {
            return policy < 2 ? NONE : caller;
        }

        private void make(int site, int context) {
            int o = objectAt(site, context);
            if (o >= 0) {
                addBit(now, MADE, o);
            }
        }

        /** The machine throws of these classes. */
        private void peril(int classes) {
            for (int c = NULL_POINTER; c <= NO_METHOD; c++) {
                int o = (classes >> c & 1) != 0 ? objectAt(MACHINE_SITES + c, NONE) : BAD;
                if (o >= 0) {
                    addBit(now, THROWN, o);
                }
            }
        }

        private void put(int to, long[] row, int at) {
            moved(join(slots, to, row, at));
        }

        /** A class begins, by a node or (BAD) by none, and what it extends. */
        private void letBegin(int node, int c) {
            for (int d = c, n = 0; d >= 0 && n < CLASSES; d = p.cls[C_UP][d], n++) {
                begun[NODES] |= 1L << d;
                if (node >= 0) {
                    begun[node] |= 1L << d;
                }
                int m = p.cls[C_CLINIT][d];
                if (m >= 0 && p.isKind(d, EXCLUDED)) {
                    leaveOpen(node);
                } else if (m >= 0) {
                    int k = instanceAt(m, NONE);
                    if (k >= 0) {
                        join(now, THROWN, ends, letsGo(k));
                    }
                }
            }
        }

        private void leaveOpen(int node) {
            if (node >= 0) {
                open[instructionOf(node)] = 1;
            }
        }

        // ---- one instruction of one instance

        private void lookAt(int node) {
            int k = nodeTable[D_OWNER][node];
            int i = instructionOf(node);
            int m = inst[N_METHOD][k];
            if (p.code[I_HEIGHT][i] < 0) {
                return;
            }
            Arrays.fill(now, 0L);
            if (node == inst[N_BASE][k] && p.hasFlag(m, STATIC) && p.hasFlag(m, SYNCHRONIZED)) {
                objectAt(CLASS_SITES + p.mth[M_CLASS][m], NONE);
            }
            int op = p.code[I_OP][i];
            int base = LOCALS + p.code[I_HEIGHT][i] - p.takes(i);
            if (op == VIRTUAL || op == SPECIAL) {
                peril(1 << NULL_POINTER);
                callAll(node, i, base);
            } else if (op == CALL) {
                callFixed(node, i, base);
            } else if (op >= GET && op <= SET_ELEMENT) {
                useHeap(node, i, op, base);
            } else {
                useStack(node, i, op, base);
            }
            passOn(node, i, m);
            passThrown(node, i, k);
        }

        private void useStack(int node, int i, int op, int base) {
            int context = contextIn(inst[N_CONTEXT][nodeTable[D_OWNER][node]]);
            switch (op) {
                case TEXT_OF:
                    make(STRING_SITES + p.code[I_TARGET][i], NONE);
                    break;
                case DIV:
                case REM:
                    peril(1 << ARITHMETIC);
                    break;
                case CAST_TO:
                    peril(1 << CAST);
                    keepFitting(at(node, base), p.code[I_TARGET][i]);
                    break;
                case LAMBDA:
                    int o = objectAt(i, context);
                    for (int q = 0; o >= 0 && q < p.takes(i); q++) {
                        put(slot(o, q), sets, at(node, base + q));
                    }
                    make(i, context);
                    break;
                case LENGTH:
                case ENTER:
                    peril(1 << NULL_POINTER);
                    break;
                case EXIT:
                    peril(1 << NULL_POINTER | 1 << MONITOR);
                    break;
                case THROW:
                    peril(1 << NULL_POINTER);
                    join(now, THROWN, sets, at(node, base));
                    break;
                case GIVE:
                    moved(join(ends, gives(nodeTable[D_OWNER][node]), sets, at(node, base)));
                    break;
                default:
                    break;
            }
        }

        private void keepFitting(int at, int type) {
            for (int o = nextBit(sets, at, 0, objects); o < objects; o = nextBit(sets, at, o + 1, objects)) {
                if (p.fits(obj[O_TYPE][o], type)) {
                    addBit(now, MADE, o);
                }
            }
        }

        private void useHeap(int node, int i, int op, int base) {
            int target = p.code[I_TARGET][i];
            int context = contextIn(inst[N_CONTEXT][nodeTable[D_OWNER][node]]);
            switch (op) {
                case GET_STATIC:
                    letBegin(node, p.fld[F_CLASS][target]);
                    join(now, MADE, slots, slot(OBJECTS, target));
                    break;
                case PUT_STATIC:
                    letBegin(node, p.fld[F_CLASS][target]);
                    put(slot(OBJECTS, target), sets, at(node, base));
                    break;
                case NEW:
                    letBegin(node, target);
                    make(i, context);
                    break;
                case ARRAY:
                    peril(1 << SIZE);
                    make(i, context);
                    break;
                case ELEMENT:
                case SET_ELEMENT:
                    peril(1 << NULL_POINTER | 1 << INDEX | (op == SET_ELEMENT ? 1 << STORE : 0));
                    useElements(node, op, base);
                    break;
                default:
                    peril(1 << NULL_POINTER);
                    useField(node, i, op, base);
                    break;
            }
        }

        private void useField(int node, int i, int op, int base) {
            int f = p.code[I_TARGET][i];
            int at = at(node, base);
            for (int o = nextBit(sets, at, 0, objects); o < objects; o = nextBit(sets, at, o + 1, objects)) {
                if (!p.fits(obj[O_TYPE][o], p.code[I_NAMED][i])) {
                    continue;
                }
                if (op == GET) {
                    join(now, MADE, slots, slot(o, f));
                } else {
                    put(slot(o, f), sets, at(node, base + 1));
                }
            }
        }

        private void useElements(int node, int op, int base) {
            int at = at(node, base);
            for (int o = nextBit(sets, at, 0, objects); o < objects; o = nextBit(sets, at, o + 1, objects)) {
                int type = INTS - 1 - obj[O_TYPE][o];
                if (type < 0) {
                    continue;
                }
                if (op == ELEMENT) {
                    join(now, MADE, slots, slot(o, 0));
                    continue;
                }
                int value = at(node, base + 2);
                for (int v = nextBit(sets, value, 0, objects); v < objects; v = nextBit(sets, value, v + 1, objects)) {
                    moved(p.fits(obj[O_TYPE][v], type) && addBit(slots, slot(o, 0), v));
                }
            }
        }

        // ---- calls

        private void callAll(int node, int i, int base) {
            int at = at(node, base);
            for (int o = nextBit(sets, at, 0, objects); o < objects; o = nextBit(sets, at, o + 1, objects)) {
                if (!p.fits(obj[O_TYPE][o], p.code[I_NAMED][i])) {
                    continue;
                }
                int m = p.callee(i, obj[O_SITE][o]);
                if (m < 0) {
                    peril(1 << NO_METHOD);
                } else if (p.hasFlag(m, NATIVE)) {
                    nodeTable[D_NATIVES][node] |= 1 << m;
                    peril(perilOf(m));
                    if (m == NEW_INSTANCE) {
                        makeInstance(node, o);
                    } else if (m == FIND) {
                        findMethods(node, o, base + 1);
                    } else if (m == INVOKE) {
                        invoke(node, o, base + 1);
                    } else if (m == START) {
                        start(node, o);
                    }
                } else if (p.hasFlag(m, STATIC)) {
                    callOne(node, m, BAD, o, base + 1);
                } else {
                    callOne(node, m, o, BAD, base + 1);
                }
            }
        }

        private void callFixed(int node, int i, int base) {
            int m = p.code[I_TARGET][i];
            letBegin(node, p.mth[M_CLASS][m]);
            if (!p.hasFlag(m, NATIVE)) {
                callOne(node, m, BAD, BAD, base);
                return;
            }
            nodeTable[D_NATIVES][node] |= 1 << m;
            peril(perilOf(m));
            int at = at(node, base);
            for (int o = nextBit(sets, at, 0, objects); m != PRINT && o < objects; o = nextBit(sets, at, o + 1, objects)) {
                int c = m == NAMED ? p.classTold(obj[O_SITE][o]) : BAD;
                if (c >= 0) {
                    letBegin(node, c);
                    make(CLASS_SITES + c, NONE);
                } else if (m == HOOK) {
                    start(node, o);
                }
            }
        }

        /** What a native method throws in any case. */
        private static int perilOf(int m) {
            switch (m) {
                case WAIT:
                case NOTIFY:
                case NOTIFY_ALL: return 1 << MONITOR;
                case NAMED: return 1 << NO_CLASS | 1 << NULL_POINTER;
                case NEW_INSTANCE: return 1 << NO_CLASS;
                case FIND: return 1 << NO_METHOD | 1 << NULL_POINTER;
                case INVOKE: return 1 << CAST | 1 << NULL_POINTER;
                case START: return 1 << STATE;
                case HOOK: return 1 << NULL_POINTER;
                default: return 0;
            }
        }

        private void makeInstance(int node, int o) {
            int c = p.classAt(obj[O_SITE][o]);
            if (c < 0 || p.isKind(c, INTERFACE | ABSTRACT_CLASS)) {
                return;
            }
            letBegin(node, c);
            int context = contextIn(inst[N_CONTEXT][nodeTable[D_OWNER][node]]);
            make(INSTANCE_SITES + c, context);
            int made = findObject(INSTANCE_SITES + c, context);
            if (made >= 0) {
                callOne(node, p.find(c, 0), made, BAD, 0);
            }
        }

        private void findMethods(int node, int o, int place) {
            int c = p.classAt(obj[O_SITE][o]);
            int at = at(node, place);
            for (int s = nextBit(sets, at, 0, objects); c >= 0 && s < objects; s = nextBit(sets, at, s + 1, objects)) {
                int name = p.nameAt(obj[O_SITE][s]);
                int m = name < 0 ? BAD : p.findNamed(c, name);
                if (m >= 0) {
                    make(METHOD_SITES + m, NONE);
                }
            }
        }

        private void invoke(int node, int o, int place) {
            int m = p.methodAt(obj[O_SITE][o]);
            if (m < 0) {
                return;
            }
            if (p.hasFlag(m, STATIC)) {
                letBegin(node, p.mth[M_CLASS][m]);
                callOne(node, m, BAD, BAD, 0);
                return;
            }
            int at = at(node, place);
            for (int v = nextBit(sets, at, 0, objects); v < objects; v = nextBit(sets, at, v + 1, objects)) {
                if (!p.fits(obj[O_TYPE][v], p.mth[M_CLASS][m])) {
                    continue;
                }
                int site = obj[O_SITE][v];
                boolean lambda = p.isLambdaFor(site, p.mth[M_SIGN][m]);
                int called = lambda ? p.code[I_TARGET][site] : p.select(obj[O_TYPE][v], p.mth[M_SIGN][m]);
                if (called < 0 || p.hasFlag(called, NATIVE)) {
                    peril(1 << NO_METHOD);
                } else {
                    callOne(node, called, lambda ? BAD : v, lambda ? v : BAD, 0);
                }
            }
        }

        /** A call with a receiver, or of a lambda's method, or neither; its values stand from a place on. */
        private void callOne(int node, int m, int receiver, int lambda, int place) {
            if (p.isKind(p.mth[M_CLASS][m], EXCLUDED)) {
                leaveOpen(node);
                return;
            }
            int site = receiver < 0 ? BAD : obj[O_SITE][receiver];
            int k = instanceAt(m, contextFor(instructionOf(node), site, inst[N_CONTEXT][nodeTable[D_OWNER][node]]));
            if (k < 0) {
                return;
            }
            addBit(leads, callsAt(node), k);
            int to = inst[N_BASE][k];
            int q = 0;
            boolean grew = false;
            if (receiver >= 0) {
                grew = addBit(sets, at(to, q++), receiver);
            }
            int has = lambda < 0 ? 0 : p.takes(obj[O_SITE][lambda]);
            for (int j = 0; j < has; j++) {
                grew |= join(sets, at(to, q++), slots, slot(lambda, j));
            }
            for (int j = 0; j < p.mth[M_PARAMS][m] - has; j++) {
                grew |= join(sets, at(to, q++), sets, at(node, place + j));
            }
            if (grew) {
                wake(to);
            }
            join(now, MADE, ends, gives(k));
            join(now, THROWN, ends, letsGo(k));
        }

        private void start(int node, int o) {
            addBit(started, OBJECTS * INSTANCE_WORDS, o);
            int run = startOne(node, o, p.select(obj[O_TYPE][o], p.mth[M_SIGN][RUN]));
            int last = startOne(node, o, p.select(obj[O_TYPE][o], p.mth[M_SIGN][UNCAUGHT]));
            if (run >= 0 && last >= 0) {
                int to = inst[N_BASE][last];
                if (join(sets, at(to, 1), ends, letsGo(run))) {
                    wake(to);
                }
            }
        }

        private int startOne(int node, int o, int m) {
            if (m < 0) {
                return BAD;
            }
            if (p.isKind(p.mth[M_CLASS][m], EXCLUDED)) {
                leaveOpen(node);
                return BAD;
            }
            int k = instanceAt(m, contextFor(instructionOf(node), obj[O_SITE][o], NONE));
            if (k >= 0) {
                addBit(leads, startsAt(node), k);
                addBit(started, o * INSTANCE_WORDS, k);
                if (addBit(sets, at(inst[N_BASE][k], 0), o)) {
                    wake(inst[N_BASE][k]);
                }
            }
            return k;
        }

        // ---- where it goes on

        private void passOn(int node, int i, int m) {
            int op = p.code[I_OP][i];
            p.shape(i, from);
            if (p.goesOn(op)) {
                flowTo(node, i, node + 1);
            }
            if (p.jumps(op)) {
                flowTo(node, i, node + p.code[I_TARGET][i] - i);
            }
            int c = p.mth[M_CATCH][m];
            for (int k = c; k < c + p.mth[M_CATCHES][m]; k++) {
                int to = node + p.trap[T_HANDLER][k] - i;
                if (p.within(k, i) && joinLocals(to, node)) {
                    wake(to);
                }
            }
        }

        private void flowTo(int node, int i, int to) {
            int places = p.behind(i);
            boolean grew = false;
            for (int q = 0; q < places; q++) {
                if (from[q] < 0) {
                    grew |= join(sets, at(to, q), now, MADE);
                } else {
                    grew |= join(sets, at(to, q), sets, at(node, from[q]));
                }
            }
            if (grew) {
                wake(to);
            }
        }

        private void passThrown(int node, int i, int k) {
            for (int o = nextBit(now, THROWN, 0, objects); o < objects; o = nextBit(now, THROWN, o + 1, objects)) {
                int c = p.catchFor(i, obj[O_TYPE][o]);
                if (c < 0) {
                    moved(addBit(ends, letsGo(k), o));
                } else {
                    int to = node + p.trap[T_HANDLER][c] - i;
                    if (addBit(sets, at(to, LOCALS), o)) {
                        wake(to);
                    }
                }
            }
        }

        // ---- what is told

        int openCount() {
            int n = 0;
            for (int i = 0; i < p.size; i++) {
                n += open[i];
            }
            return n;
        }

        int openAt(int k) {
            int n = k;
            for (int i = 0; k >= 0 && i < p.size; i++) {
                if (open[i] != 0 && n-- == 0) {
                    return i;
                }
            }
            return BAD;
        }

        int instancesOf(int m) {
            int n = 0;
            for (int k = heads[m]; k >= 0 && n < INSTANCES; k = inst[N_NEXT][k]) {
                n++;
            }
            return n;
        }

        boolean mayBegin(int c) {
            return (begun[NODES] >>> c & 1L) != 0;
        }

        /** What a place holds before an instruction in all instances of its method together. */
        long[] allIn(int i, int place) {
            Arrays.fill(now, 0L);
            int m = p.code[I_METHOD][i];
            int k = heads[m];
            for (int n = 0; k >= 0 && n < INSTANCES; n++) {
                join(now, 0, sets, at(nodeOf(k, i), place));
                k = inst[N_NEXT][k];
            }
            return now;
        }

        /** What a field (or with numbers below 0 elements, or what a lambda has) of an object holds. */
        long[] heapOf(int o, int f) {
            Arrays.fill(now, 0L);
            int at = BAD;
            if (f >= 0) {
                boolean has = o == OBJECTS || obj[O_TYPE][o] >= 0 && !p.isLambda(obj[O_SITE][o]);
                at = has ? slot(o, f) : BAD;
            } else if (f == -1) {
                at = obj[O_TYPE][o] < 0 ? slot(o, 0) : BAD;
            } else if (p.isLambda(obj[O_SITE][o])) {
                at = slot(o, -2 - f);
            }
            if (at >= 0) {
                join(now, 0, slots, at);
            }
            return now;
        }

        boolean holdsObject(int node, int place, int o) {
            return hasBit(sets, at(node, place), o);
        }
    }

    /** What follows for threads: what is once, singular, escapes; which threads there are, and what may meet. */
    private static final class Threads {
        private static final int ALL = OBJECTS + 1;
        private static final int SPOTS = INSTANCES + METHOD_CODE;

        private final Program p;
        private final Checker checker;
        private final Flow flow;
        /** Objects by number. */
        private final int[] order = new int[OBJECTS];
        private final int[] once = new int[METHODS];
        final long[] singular = new long[WORDS];
        final long[] escaping = new long[WORDS];
        int threads;
        private final int[] objectOf = new int[ALL];
        /** Methods that an instruction calls or lets begin; that it starts; those a method leads to so. */
        final long[] calling = new long[CODE * 2];
        final long[] starting = new long[CODE * 2];
        final long[] leading = new long[METHODS * 2];
        /** Instances to which an instance leads; threads that run an instance. */
        private final long[] reach = new long[INSTANCES * INSTANCE_WORDS];
        private final long[] runBy = new long[INSTANCES * WORDS];
        /** The TOPS of an instance: offsets in MAIN, then whether the BEGINNING is one. */
        private final long[] tops = new long[INSTANCES * 3];
        /** For each thread the offsets in MAIN of what starts it; whether it is started elsewhere. */
        private final long[] starters = new long[ALL * 3];
        /** Offsets in MAIN before the thread that is looked at, then those behind it. */
        private final long[] sides = new long[4];
        /** Instructions of MAIN that can't be come to without an instruction of it. */
        private final long[] gated = new long[METHOD_CODE * 2];
        /** Threads that may meet thread 0 in an instance, or at an offset in MAIN. */
        private final long[] loose = new long[SPOTS * WORDS];
        private final long[] now = new long[WORDS];
        private final int[] far = new int[METHODS];

        Threads(Program program, Checker checks, Flow solved) {
            p = program;
            checker = checks;
            flow = solved;
        }

        void conclude() {
            sortObjects();
            fillLeads();
            fillOnce();
            fillSingular();
            fillEscaping();
            fillThreads();
            fillReach();
            fillRuns();
            fillTops();
            fillStarters();
            fillGates();
            fillLoose();
        }

        // ---- objects by number

        private boolean isLess(int o, int q) {
            int[] site = flow.obj[Flow.O_SITE];
            int[] context = flow.obj[Flow.O_CONTEXT];
            return site[o] != site[q] ? site[o] < site[q] : context[o] < context[q];
        }

        private void sortObjects() {
            for (int o = 0; o < flow.objects; o++) {
                int k = o;
                for (; k > 0 && isLess(o, order[k - 1]); k--) {
                    order[k] = order[k - 1];
                }
                order[k] = o;
            }
        }

        int objectAt(int number) {
            return order[number];
        }

        int numberOf(int o) {
            for (int k = 0; k < flow.objects; k++) {
                if (order[k] == o) {
                    return k;
                }
            }
            return BAD;
        }

        /** The number of the k-th object of a set; with k = - 1 how many there are. */
        int pick(long[] set, int k) {
            if (k < -1) {
                return BAD;
            }
            int n = 0;
            for (int number = 0; number < flow.objects; number++) {
                if (hasBit(set, 0, order[number])) {
                    if (n == k) {
                        return number;
                    }
                    n++;
                }
            }
            return k == -1 ? n : BAD;
        }

        int pickMethod(long[] set, int at, int k) {
            if (k == -1) {
                return bitCount(set, at, 2);
            }
            int m = k < 0 ? METHODS : nextBit(set, at, 0, METHODS);
            for (int n = 0; n < k && m < METHODS; n++) {
                m = nextBit(set, at, m + 1, METHODS);
            }
            return m < METHODS ? m : BAD;
        }

        int tellObject(int number, int what) {
            int o = order[number];
            switch (what) {
                case 0: return flow.obj[Flow.O_SITE][o];
                case 1: return flow.obj[Flow.O_CONTEXT][o];
                case 2: return flow.obj[Flow.O_TYPE][o];
                case 3: return hasBit(singular, 0, o) ? 1 : 0;
                case 4: return hasBit(escaping, 0, o) ? 1 : 0;
                case 5: return threadOf(o);
                default: return BAD;
            }
        }

        private int threadOf(int o) {
            for (int t = 1; t < threads; t++) {
                if (objectOf[t] == o) {
                    return t;
                }
            }
            return BAD;
        }

        // ---- methods

        private void fillLeads() {
            Arrays.fill(calling, 0, p.size * 2, 0L);
            Arrays.fill(starting, 0, p.size * 2, 0L);
            Arrays.fill(leading, 0L);
            for (int node = 0; node < flow.nodes; node++) {
                int i = flow.instructionOf(node);
                fillCalls(node, i);
                int from = p.code[I_METHOD][i] * 2;
                merge(leading, from, calling, i * 2, 2);
                merge(leading, from, starting, i * 2, 2);
            }
        }

        private void fillCalls(int node, int i) {
            for (int k = 0; k < flow.instances; k++) {
                if (hasBit(flow.leads, Flow.callsAt(node), k)) {
                    addBit(calling, i * 2, flow.inst[Flow.N_METHOD][k]);
                }
                if (hasBit(flow.leads, Flow.startsAt(node), k)) {
                    addBit(starting, i * 2, flow.inst[Flow.N_METHOD][k]);
                }
            }
            for (int c = 0; c < p.classes; c++) {
                if ((flow.begun[node] >>> c & 1L) != 0 && clinitOf(c) >= 0) {
                    addBit(calling, i * 2, p.cls[C_CLINIT][c]);
                }
            }
        }

        /** The instance of a class's clinit. */
        private int clinitOf(int c) {
            return flow.findInstance(p.cls[C_CLINIT][c], NONE);
        }

        private boolean isClinit(int m) {
            return p.mth[M_NAME][m] == W_CLINIT;
        }

        /** The instruction that alone calls or starts a method; BAD without, CODE if there are more. */
        private int callerOf(int m) {
            int only = BAD;
            for (int i = 0; i < p.size; i++) {
                if (hasBit(calling, i * 2, m) || hasBit(starting, i * 2, m)) {
                    only = only == BAD ? i : CODE;
                }
            }
            return only;
        }

        private void fillOnce() {
            for (int m = 0; m < p.methods; m++) {
                once[m] = isClinit(m) || m == p.main && callerOf(m) == BAD ? 1 : 0;
            }
            boolean more = true;
            for (int turn = 0; turn <= METHODS && more; turn++) {
                more = false;
                for (int m = 0; m < p.methods; m++) {
                    int i = once[m] != 0 || m == p.main ? BAD : callerOf(m);
                    if (i >= 0 && i < CODE && isLineOnce(i)) {
                        once[m] = 1;
                        more = true;
                    }
                }
            }
        }

        boolean isOnce(int m) {
            return once[m] != 0;
        }

        boolean isLineOnce(int i) {
            return once[p.code[I_METHOD][i]] != 0 && !checker.comesBack(i);
        }

        // ---- objects

        private void fillSingular() {
            Arrays.fill(singular, 0L);
            for (int o = 0; o < flow.objects; o++) {
                int site = flow.obj[Flow.O_SITE][o];
                if (site < STRING_SITES ? isLineOnce(site) : site < MACHINE_SITES) {
                    addBit(singular, 0, o);
                }
            }
        }

        private void fillEscaping() {
            Arrays.fill(escaping, 0L);
            for (int f = 0; f < FIELDS; f++) {
                merge(escaping, 0, flow.slots, Flow.slot(OBJECTS, f), WORDS);
            }
            merge(escaping, 0, flow.started, OBJECTS * INSTANCE_WORDS, WORDS);
            boolean more = true;
            for (int turn = 0; turn <= OBJECTS && more; turn++) {
                more = false;
                for (int o = nextBit(escaping, 0, 0, flow.objects); o < flow.objects; o = nextBit(escaping, 0, o + 1, flow.objects)) {
                    for (int f = 0; f < FIELDS; f++) {
                        more |= merge(escaping, 0, flow.slots, Flow.slot(o, f), WORDS);
                    }
                }
            }
        }

        // ---- threads and what they run

        private void fillThreads() {
            threads = 1;
            objectOf[0] = BAD;
            for (int number = 0; number < flow.objects; number++) {
                if (hasBit(flow.started, OBJECTS * INSTANCE_WORDS, order[number])) {
                    objectOf[threads++] = order[number];
                }
            }
        }

        private boolean isSingle(int t) {
            return t == 0 || hasBit(singular, 0, objectOf[t]);
        }

        /** Adds the instances that a node calls or lets begin. */
        private void addNext(int node, long[] row, int at) {
            merge(row, at, flow.leads, Flow.callsAt(node), INSTANCE_WORDS);
            addClinits(flow.begun[node], row, at);
        }

        private void addClinits(long classes, long[] row, int at) {
            for (int c = 0; c < p.classes && classes != 0; c++) {
                int k = (classes >>> c & 1L) != 0 ? clinitOf(c) : BAD;
                if (k >= 0) {
                    addBit(row, at, k);
                }
            }
        }

        private void fillReach() {
            Arrays.fill(reach, 0, flow.instances * INSTANCE_WORDS, 0L);
            for (int node = 0; node < flow.nodes; node++) {
                addNext(node, reach, flow.nodeTable[Flow.D_OWNER][node] * INSTANCE_WORDS);
            }
            for (int k = 0; k < flow.instances; k++) {
                for (int j = 0; j < flow.instances; j++) {
                    if (hasBit(reach, j * INSTANCE_WORDS, k)) {
                        merge(reach, j * INSTANCE_WORDS, reach, k * INSTANCE_WORDS, INSTANCE_WORDS);
                    }
                }
            }
        }

        /** Adds to a set of instances all to which they lead. */
        private void addReached(long[] row) {
            for (int k = 0; k < flow.instances; k++) {
                if (hasBit(row, 0, k)) {
                    merge(row, 0, reach, k * INSTANCE_WORDS, INSTANCE_WORDS);
                }
            }
        }

        private int mainInstance() {
            return flow.findInstance(p.main, NONE);
        }

        /** The classes that begin ahead of MAIN. */
        private long mainClasses() {
            long classes = 0L;
            for (int d = p.mth[M_CLASS][p.main], n = 0; d >= 0 && n < CLASSES; d = p.cls[C_UP][d], n++) {
                classes |= 1L << d;
            }
            return classes;
        }

        private void fillRuns() {
            Arrays.fill(runBy, 0, flow.instances * WORDS, 0L);
            for (int t = 0; t < threads; t++) {
                Arrays.fill(now, 0L);
                if (t == 0) {
                    addBit(now, 0, mainInstance());
                    addClinits(mainClasses(), now, 0);
                } else {
                    merge(now, 0, flow.started, objectOf[t] * INSTANCE_WORDS, INSTANCE_WORDS);
                }
                addReached(now);
                for (int k = 0; k < flow.instances; k++) {
                    if (hasBit(now, 0, k)) {
                        addBit(runBy, k * WORDS, t);
                    }
                }
            }
        }

        int tellThread(int t, int what) {
            switch (what) {
                case 0: return t == 0 ? BAD : numberOf(objectOf[t]);
                case 1: return isSingle(t) ? 1 : 0;
                case 2:
                    int n = 0;
                    for (int k = 0; k < flow.instances; k++) {
                        n += hasBit(runBy, k * WORDS, t) ? 1 : 0;
                    }
                    return n;
                default: return BAD;
            }
        }

        // ---- what is before a thread, or behind it

        private int mainFirst() {
            return p.mth[M_FIRST][p.main];
        }

        private int mainCount() {
            return p.mth[M_COUNT][p.main];
        }

        private void fillTops() {
            Arrays.fill(tops, 0, flow.instances * 3, 0L);
            int main = mainInstance();
            for (int offset = 0; offset < mainCount(); offset++) {
                Arrays.fill(now, 0L);
                addNext(flow.inst[Flow.N_BASE][main] + offset, now, 0);
                addReached(now);
                addTop(offset);
            }
            Arrays.fill(now, 0L);
            addClinits(mainClasses(), now, 0);
            addReached(now);
            addTop(128);
        }

        private void addTop(int top) {
            for (int k = 0; k < flow.instances; k++) {
                if (hasBit(now, 0, k)) {
                    addBit(tops, k * 3, top);
                }
            }
        }

        /** Whether a node starts an object. */
        private boolean starts(int node, int o) {
            int i = flow.instructionOf(node);
            int place = LOCALS + p.code[I_HEIGHT][i] - p.takes(i);
            int natives = flow.nodeTable[Flow.D_NATIVES][node];
            if ((natives >> HOOK & 1) != 0) {
                return flow.holdsObject(node, place, o);
            }
            return (natives >> START & 1) != 0 && flow.holdsObject(node, place, o)
                && p.fits(flow.obj[Flow.O_TYPE][o], p.code[I_NAMED][i])
                && p.callee(i, flow.obj[Flow.O_SITE][o]) == START;
        }

        private void fillStarters() {
            Arrays.fill(starters, 0, threads * 3, 0L);
            int main = mainInstance();
            for (int node = 0; node < flow.nodes; node++) {
                if ((flow.nodeTable[Flow.D_NATIVES][node] & (1 << START | 1 << HOOK)) == 0) {
                    continue;
                }
                boolean here = flow.nodeTable[Flow.D_OWNER][node] == main;
                int offset = here ? node - flow.inst[Flow.N_BASE][main] : 128;
                for (int t = 1; t < threads; t++) {
                    if (starts(node, objectOf[t])) {
                        addBit(starters, t * 3, offset);
                    }
                }
            }
        }

        /** For each instruction of MAIN those that no way comes to but through it. */
        private void fillGates() {
            Arrays.fill(gated, 0L);
            for (int gate = 0; gate < mainCount(); gate++) {
                Arrays.fill(now, 0L);
                if (gate > 0) {
                    addBit(now, 0, 0);
                    spread(gate);
                }
                for (int k = 0; k < mainCount(); k++) {
                    if (!hasBit(now, 0, k)) {
                        addBit(gated, gate * 2, k);
                    }
                }
            }
        }

        /** Adds all that can be come to from what is in the set, but not through a gate. */
        private void spread(int gate) {
            boolean more = true;
            for (int turn = 0; turn <= METHOD_CODE && more; turn++) {
                more = false;
                for (int k = 0; k < mainCount(); k++) {
                    if (hasBit(now, 0, k)) {
                        now[2] = 0L;
                        now[3] = 0L;
                        checker.fillNext(mainFirst() + k, p.main, now, 2);
                        dropBit(now, 2, gate);
                        more |= merge(now, 0, now, 2, 2);
                    }
                }
            }
        }

        private void fillBefore(int t) {
            sides[0] = 0L;
            sides[1] = 0L;
            if (once[p.main] == 0 || starters[t * 3 + 2] != 0L) {
                return;
            }
            for (int k = 0; k < mainCount(); k++) {
                boolean led = false;
                for (int s = nextBit(starters, t * 3, 0, 128); s < 128 && !led; s = nextBit(starters, t * 3, s + 1, 128)) {
                    led = checker.leads(mainFirst() + s, mainFirst() + k);
                }
                if (!led) {
                    addBit(sides, 0, k);
                }
            }
        }

        private void fillAfter(int t) {
            sides[2] = 0L;
            sides[3] = 0L;
            int q = nextBit(starters, t * 3, 0, 128);
            boolean alone = starters[t * 3 + 2] == 0L && bitCount(starters, t * 3, 2) == 1;
            if (once[p.main] == 0 || !isSingle(t) || !alone || !isLineOnce(mainFirst() + q)) {
                return;
            }
            for (int k = 0; k < mainCount(); k++) {
                if (hasBit(gated, q * 2, k) && joins(k, objectOf[t])) {
                    boolean was = hasBit(sides, 2, k);
                    merge(sides, 2, gated, k * 2, 2);
                    if (!was) {
                        dropBit(sides, 2, k);
                    }
                }
            }
        }

        /** Whether an instruction of MAIN, within no catch, joins an object alone. */
        private boolean joins(int offset, int o) {
            int i = mainFirst() + offset;
            int node = flow.nodeOf(mainInstance(), i);
            if ((flow.nodeTable[Flow.D_NATIVES][node] >> JOIN & 1) == 0) {
                return false;
            }
            int from = p.mth[M_CATCH][p.main];
            for (int c = from; c < from + p.mth[M_CATCHES][p.main]; c++) {
                if (p.within(c, i)) {
                    return false;
                }
            }
            int at = Flow.at(node, LOCALS + p.code[I_HEIGHT][i] - 1);
            return bitCount(flow.sets, at, WORDS) == 1 && hasBit(flow.sets, at, o);
        }

        private void fillLoose() {
            Arrays.fill(loose, 0, (flow.instances + mainCount()) * WORDS, 0L);
            int main = mainInstance();
            for (int t = 1; t < threads; t++) {
                fillBefore(t);
                fillAfter(t);
                boolean ahead = once[p.main] != 0 && starters[t * 3 + 2] == 0L;
                for (int spot = 0; spot < flow.instances + mainCount(); spot++) {
                    int k = spot < flow.instances ? spot : main;
                    long low = tops[k * 3];
                    long high = tops[k * 3 + 1];
                    if (spot >= flow.instances) {
                        int offset = spot - flow.instances;
                        low |= offset < 64 ? 1L << offset : 0L;
                        high |= offset < 64 ? 0L : 1L << offset - 64;
                    }
                    boolean beginning = tops[k * 3 + 2] != 0L;
                    boolean isBefore = (low & ~sides[0]) == 0 && (high & ~sides[1]) == 0 && (!beginning || ahead);
                    boolean isAfter = (low & ~sides[2]) == 0 && (high & ~sides[3]) == 0 && !beginning;
                    if (!isBefore && !isAfter) {
                        addBit(loose, spot * WORDS, t);
                    }
                }
            }
        }

        // ---- what may be at the same time

        boolean mayMeet(int i, int j) {
            int k = flow.nextInstance(p.code[I_METHOD][i], BAD);
            for (int n = 0; k >= 0 && n < INSTANCES; n++) {
                int l = flow.nextInstance(p.code[I_METHOD][j], BAD);
                for (int o = 0; l >= 0 && o < INSTANCES; o++) {
                    if (areParallel(flow.nodeOf(k, i), flow.nodeOf(l, j))) {
                        return true;
                    }
                    l = flow.nextInstance(BAD, l);
                }
                k = flow.nextInstance(BAD, k);
            }
            return false;
        }

        boolean areParallel(int a, int b) {
            int k = flow.nodeTable[Flow.D_OWNER][a];
            int l = flow.nodeTable[Flow.D_OWNER][b];
            return areOthers(k, l) || meetsMain(a, k, l) || meetsMain(b, l, k);
        }

        /** Whether two threads other than 0 may run two instances at the same time. */
        private boolean areOthers(int k, int l) {
            int t = nextBit(runBy, k * WORDS, 1, threads);
            int u = nextBit(runBy, l * WORDS, 1, threads);
            if (t >= threads || u >= threads) {
                return false;
            }
            boolean alone = nextBit(runBy, k * WORDS, t + 1, threads) >= threads
                && nextBit(runBy, l * WORDS, u + 1, threads) >= threads;
            return !alone || t != u || !isSingle(t);
        }

        /** Whether thread 0 runs a node, and another one at the same time an instance. */
        private boolean meetsMain(int a, int k, int l) {
            if (!hasBit(runBy, k * WORDS, 0)) {
                return false;
            }
            int main = mainInstance();
            int spot = k == main ? flow.instances + a - flow.inst[Flow.N_BASE][k] : k;
            return meet(loose, spot * WORDS, runBy, l * WORDS, WORDS);
        }

        // ---- ways

        /** The k-th instruction of the shortest, then least row from MAIN to a method; with k = - 1 how many. */
        int wayTo(int m, int k) {
            fillFar(m);
            int length = far[p.main];
            if (length < 0 || k < -1 || k >= length) {
                return BAD;
            }
            if (k == -1) {
                return length;
            }
            Arrays.fill(now, 0L);
            addBit(now, 0, p.main);
            int i = BAD;
            for (int turn = 0; turn <= k; turn++) {
                i = leastTo(length - turn - 1);
                now[0] = 0L;
                now[1] = 0L;
                for (int to = 0; to < p.methods; to++) {
                    if (far[to] == length - turn - 1 && leadsTo(i, to)) {
                        addBit(now, 0, to);
                    }
                }
            }
            return i;
        }

        /** The least instruction of the methods at hand that leads to one from which it is so far. */
        private int leastTo(int rest) {
            for (int i = 0; i < p.size; i++) {
                for (int to = 0; hasBit(now, 0, p.code[I_METHOD][i]) && to < p.methods; to++) {
                    if (far[to] == rest && leadsTo(i, to)) {
                        return i;
                    }
                }
            }
            return BAD;
        }

        private boolean leadsTo(int i, int m) {
            return i >= 0 && (hasBit(calling, i * 2, m) || hasBit(starting, i * 2, m));
        }

        /** How many instructions a row from each method to one has at least. */
        private void fillFar(int m) {
            Arrays.fill(far, BAD);
            far[m] = 0;
            boolean more = true;
            for (int turn = 0; turn < METHODS && more; turn++) {
                more = false;
                for (int from = 0; from < p.methods; from++) {
                    for (int to = 0; far[from] < 0 && to < p.methods; to++) {
                        if (far[to] == turn && hasBit(leading, from * 2, to)) {
                            far[from] = turn + 1;
                            more = true;
                        }
                    }
                }
            }
        }

        // ---- for questions

        boolean isReached(int m) {
            return flow.nextInstance(m, BAD) >= 0;
        }

        boolean isStarting(int m) {
            int from = p.mth[M_FIRST][m];
            for (int i = from; i < from + p.mth[M_COUNT][m]; i++) {
                if (bitCount(starting, i * 2, 2) > 0) {
                    return true;
                }
            }
            return false;
        }

        /** Those that lead to a set of methods (back), or to which it leads; with them, if they stay. */
        void follow(long[] set, boolean back, boolean stay) {
            Arrays.fill(now, 0L);
            for (int m = 0; m < p.methods; m++) {
                if (back && meet(leading, m * 2, set, 0, 2)) {
                    addBit(now, 0, m);
                } else if (!back && hasBit(set, 0, m)) {
                    merge(now, 0, leading, m * 2, 2);
                }
            }
            set[0] = stay ? set[0] | now[0] : now[0];
            set[1] = stay ? set[1] | now[1] : now[1];
        }
    }

    /** Monitors that are held, races, knots, calls of wait(). */
    private static final class Monitors {
        private static final int LOOSE = 1;
        private static final int RASH = 2;

        private final Program p;
        private final Checker checker;
        private final Flow flow;
        private final Threads t;
        /** What is held when an instance is called: surely, then maybe. */
        private final long[] entry = new long[INSTANCES * 2 * WORDS];
        private final int[] rooted = new int[INSTANCES];
        private final long[] sure = new long[NODES * WORDS];
        private final long[] may = new long[NODES * WORDS];
        private final long[] wanted = new long[NODES * WORDS];
        int races;
        private final long[] raced = new long[CODE * CODE_WORDS];
        /** Objects to which an object leads, held while they are wanted. */
        private final long[] chains = new long[OBJECTS * WORDS];
        int knots;
        private final int[] knotsAt = new int[CODE];
        int waits;
        private final int[] waitAt = new int[CODE];
        private final long[] now = new long[WORDS];

        Monitors(Program program, Checker checks, Flow solved, Threads threads) {
            p = program;
            checker = checks;
            flow = solved;
            t = threads;
        }

        void conclude() {
            fillRoots();
            fillSure();
            fillMay();
            fillWanted();
            fillRaces();
            fillChains();
            countKnots();
            fillWaits();
        }

        private static int surely(int k) {
            return k * 2 * WORDS;
        }

        private static int maybe(int k) {
            return (k * 2 + 1) * WORDS;
        }

        // ---- what is held

        /** Instances at whose beginning nothing is surely held. */
        private void fillRoots() {
            Arrays.fill(rooted, 0);
            for (int k = 0; k < flow.instances; k++) {
                int m = flow.inst[Flow.N_METHOD][k];
                boolean main = m == p.main && flow.inst[Flow.N_CONTEXT][k] == NONE;
                rooted[k] = main || p.mth[M_NAME][m] == W_CLINIT ? 1 : 0;
            }
            for (int node = 0; node < flow.nodes; node++) {
                for (int k = 0; k < flow.instances; k++) {
                    if (hasBit(flow.leads, Flow.startsAt(node), k)) {
                        rooted[k] = 1;
                    }
                }
            }
        }

        /** Puts into the set at hand what an instance's LOCK may be. */
        private void addLock(int k, long[] to, int at) {
            int m = flow.inst[Flow.N_METHOD][k];
            if (!p.hasFlag(m, SYNCHRONIZED)) {
                return;
            }
            if (p.hasFlag(m, STATIC)) {
                int o = flow.findObject(CLASS_SITES + p.mth[M_CLASS][m], NONE);
                if (o >= 0) {
                    addBit(to, at, o);
                }
            } else {
                merge(to, at, flow.sets, Flow.at(flow.inst[Flow.N_BASE][k], 0), WORDS);
            }
        }

        /** Where the set of what the r-th 53 of a node's row takes stands. */
        private int rowAt(int node, int i, int r) {
            int e = checker.rows[i * ROW + r];
            return Flow.at(node + e - i, LOCALS + p.code[I_HEIGHT][e] - 1);
        }

        private void addSingle(long[] to, int at, long[] set, int from) {
            if (bitCount(set, from, WORDS) == 1 && meet(set, from, t.singular, 0, WORDS)) {
                merge(to, at, set, from, WORDS);
            }
        }

        /** Surely held at a node by its own instance. */
        private void fillOwnSure(int node) {
            int i = flow.instructionOf(node);
            for (int r = 0; p.code[I_HEIGHT][i] >= 0 && r < p.code[I_ROW][i]; r++) {
                addSingle(sure, node * WORDS, flow.sets, rowAt(node, i, r));
            }
            Arrays.fill(now, 0L);
            addLock(flow.nodeTable[Flow.D_OWNER][node], now, 0);
            addSingle(sure, node * WORDS, now, 0);
        }

        private void fillSure() {
            Arrays.fill(sure, 0, flow.nodes * WORDS, 0L);
            for (int node = 0; node < flow.nodes; node++) {
                fillOwnSure(node);
            }
            for (int k = 0; k < flow.instances; k++) {
                Arrays.fill(entry, surely(k), surely(k) + WORDS, rooted[k] != 0 ? 0L : -1L);
            }
            boolean more = true;
            for (int turn = 0; turn < FAR && more; turn++) {
                more = false;
                for (int node = 0; node < flow.nodes; node++) {
                    int from = surely(flow.nodeTable[Flow.D_OWNER][node]);
                    for (int k = 0; k < flow.instances; k++) {
                        if (hasBit(flow.leads, Flow.callsAt(node), k)) {
                            more |= narrow(surely(k), from, node * WORDS);
                        }
                    }
                }
            }
            for (int node = 0; node < flow.nodes; node++) {
                merge(sure, node * WORDS, entry, surely(flow.nodeTable[Flow.D_OWNER][node]), WORDS);
            }
        }

        /** Leaves of an instance's entry what a caller's entry or the calling node has. */
        private boolean narrow(int at, int from, int node) {
            boolean less = false;
            for (int w = 0; w < WORDS; w++) {
                long kept = entry[at + w] & (entry[from + w] | sure[node + w]);
                less |= kept != entry[at + w];
                entry[at + w] = kept;
            }
            return less;
        }

        private void fillMay() {
            Arrays.fill(may, 0, flow.nodes * WORDS, 0L);
            for (int node = 0; node < flow.nodes; node++) {
                int i = flow.instructionOf(node);
                for (int r = 0; p.code[I_HEIGHT][i] >= 0 && r < p.code[I_ROW][i]; r++) {
                    merge(may, node * WORDS, flow.sets, rowAt(node, i, r), WORDS);
                }
            }
            for (int k = 0; k < flow.instances; k++) {
                Arrays.fill(entry, maybe(k), maybe(k) + WORDS, 0L);
                addLock(k, entry, maybe(k));
            }
            boolean more = true;
            for (int turn = 0; turn < FAR && more; turn++) {
                more = false;
                for (int node = 0; node < flow.nodes; node++) {
                    merge(may, node * WORDS, entry, maybe(flow.nodeTable[Flow.D_OWNER][node]), WORDS);
                    more |= handOn(node);
                }
            }
        }

        private boolean handOn(int node) {
            boolean more = false;
            for (int k = 0; k < flow.instances; k++) {
                if (hasBit(flow.leads, Flow.callsAt(node), k)) {
                    more |= merge(entry, maybe(k), may, node * WORDS, WORDS);
                }
            }
            long classes = flow.begun[node];
            for (int c = 0; c < p.classes && classes != 0L; c++) {
                int k = (classes >>> c & 1L) != 0 ? flow.findInstance(p.cls[C_CLINIT][c], NONE) : BAD;
                if (k >= 0) {
                    more |= merge(entry, maybe(k), may, node * WORDS, WORDS);
                }
            }
            return more;
        }

        long[] allHeld(int i, boolean surely) {
            Arrays.fill(now, 0L);
            int k = flow.nextInstance(p.code[I_METHOD][i], BAD);
            if (surely && k >= 0) {
                Arrays.fill(now, -1L);
            }
            for (int n = 0; k >= 0 && n < INSTANCES; n++) {
                int at = flow.nodeOf(k, i) * WORDS;
                for (int w = 0; w < WORDS; w++) {
                    now[w] = surely ? now[w] & sure[at + w] : now[w] | may[at + w];
                }
                k = flow.nextInstance(BAD, k);
            }
            return now;
        }

        // ---- races

        /** The field that a node accesses; FIELDS for elements; BAD if it is no access. */
        private int accessed(int node) {
            int i = flow.instructionOf(node);
            int op = p.code[I_OP][i];
            if (p.code[I_HEIGHT][i] < 0 || op < GET || op > SET_ELEMENT || op == NEW || op == ARRAY) {
                return BAD;
            }
            if (op == ELEMENT || op == SET_ELEMENT) {
                return FIELDS;
            }
            int f = p.code[I_TARGET][i];
            return (p.fld[F_FLAGS][f] & (FINAL | VOLATILE)) != 0 ? BAD : f;
        }

        private boolean writes(int i) {
            int op = p.code[I_OP][i];
            return op == PUT || op == PUT_STATIC || op == SET_ELEMENT;
        }

        private void fillRaces() {
            Arrays.fill(raced, 0, p.size * CODE_WORDS, 0L);
            races = 0;
            for (int a = 0; a < flow.nodes; a++) {
                int f = accessed(a);
                int i = flow.instructionOf(a);
                for (int b = a; f >= 0 && b < flow.nodes; b++) {
                    int j = flow.instructionOf(b);
                    if (accessed(b) == f && (writes(i) || writes(j)) && !isRace(i, j) && doRace(a, b, f)) {
                        races += addBit(raced, Math.min(i, j) * CODE_WORDS, Math.max(i, j)) ? 1 : 0;
                    }
                }
            }
        }

        private boolean doRace(int a, int b, int f) {
            if (meet(sure, a * WORDS, sure, b * WORDS, WORDS)) {
                return false;
            }
            boolean fixed = f < FIELDS && (p.fld[F_FLAGS][f] & STATIC) != 0;
            return (fixed || shareEscaping(receiverAt(a), receiverAt(b))) && t.areParallel(a, b);
        }

        private int receiverAt(int node) {
            int i = flow.instructionOf(node);
            return Flow.at(node, LOCALS + p.code[I_HEIGHT][i] - p.takes(i));
        }

        private boolean shareEscaping(int a, int b) {
            for (int w = 0; w < WORDS; w++) {
                if ((flow.sets[a + w] & flow.sets[b + w] & t.escaping[w]) != 0) {
                    return true;
                }
            }
            return false;
        }

        boolean isRace(int i, int j) {
            int low = i < j ? i : j;
            int high = i < j ? j : i;
            return (raced[low * CODE_WORDS + (high >> 6)] >>> (high & 63) & 1L) != 0;
        }

        boolean isRacing(int m) {
            for (int i = 0; i < p.size; i++) {
                for (int j = nextBit(raced, i * CODE_WORDS, i, p.size); j < p.size; j = nextBit(raced, i * CODE_WORDS, j + 1, p.size)) {
                    if (p.code[I_METHOD][i] == m || p.code[I_METHOD][j] == m) {
                        return true;
                    }
                }
            }
            return false;
        }

        int tellRace(int k, int what) {
            int n = k;
            for (int i = 0; i < p.size; i++) {
                int here = bitCount(raced, i * CODE_WORDS, CODE_WORDS);
                if (n >= here) {
                    n -= here;
                    continue;
                }
                int j = nextBit(raced, i * CODE_WORDS, 0, p.size);
                for (; n > 0 && j < p.size; n--) {
                    j = nextBit(raced, i * CODE_WORDS, j + 1, p.size);
                }
                int op = p.code[I_OP][i];
                int f = op == ELEMENT || op == SET_ELEMENT ? BAD : p.code[I_TARGET][i];
                return what == 0 ? i : what == 1 ? j : f;
            }
            return BAD;
        }

        // ---- knots

        private void fillWanted() {
            Arrays.fill(wanted, 0, flow.nodes * WORDS, 0L);
            for (int node = 0; node < flow.nodes; node++) {
                int i = flow.instructionOf(node);
                if (p.code[I_HEIGHT][i] < 0) {
                    continue;
                }
                if (p.code[I_OP][i] == ENTER) {
                    merge(wanted, node * WORDS, flow.sets, receiverAt(node), WORDS);
                }
                for (int k = 0; k < flow.instances; k++) {
                    if (hasBit(flow.leads, Flow.callsAt(node), k)) {
                        addLock(k, wanted, node * WORDS);
                    }
                }
                for (int o = 0; (flow.nodeTable[Flow.D_NATIVES][node] >> WAIT & 1) != 0 && o < flow.objects; o++) {
                    if (waitsFor(node, i, o)) {
                        addBit(wanted, node * WORDS, o);
                    }
                }
            }
        }

        /** Whether a node calls the native wait of an object. */
        private boolean waitsFor(int node, int i, int o) {
            return hasBit(flow.sets, receiverAt(node), o)
                && p.fits(flow.obj[Flow.O_TYPE][o], p.code[I_NAMED][i])
                && p.callee(i, flow.obj[Flow.O_SITE][o]) == WAIT;
        }

        /** What each object leads to. (Whether it leads to itself is asked by none: a singular one does not.) */
        private void fillChains() {
            Arrays.fill(chains, 0, flow.objects * WORDS, 0L);
            for (int node = 0; node < flow.nodes; node++) {
                for (int o = 0; meet(wanted, node * WORDS, wanted, node * WORDS, WORDS) && o < flow.objects; o++) {
                    if (hasBit(may, node * WORDS, o)) {
                        merge(chains, o * WORDS, wanted, node * WORDS, WORDS);
                    }
                }
            }
            for (int k = 0; k < flow.objects; k++) {
                for (int o = 0; o < flow.objects; o++) {
                    if (hasBit(chains, o * WORDS, k)) {
                        merge(chains, o * WORDS, chains, k * WORDS, WORDS);
                    }
                }
            }
        }

        /** Puts at hand what is wanted at an instruction while an object is held, and leads to it. */
        private void fillKnots(int i, int o) {
            Arrays.fill(now, 0L);
            int k = flow.nextInstance(p.code[I_METHOD][i], BAD);
            for (int n = 0; k >= 0 && n < INSTANCES; n++) {
                int at = flow.nodeOf(k, i) * WORDS;
                if (hasBit(may, at, o)) {
                    merge(now, 0, wanted, at, WORDS);
                }
                k = flow.nextInstance(BAD, k);
            }
            if (hasBit(t.singular, 0, o)) {
                dropBit(now, 0, o);
            }
            for (int q = nextBit(now, 0, 0, flow.objects); q < flow.objects; q = nextBit(now, 0, q + 1, flow.objects)) {
                if (q != o && !hasBit(chains, q * WORDS, o)) {
                    dropBit(now, 0, q);
                }
            }
        }

        private void countKnots() {
            knots = 0;
            Arrays.fill(knotsAt, 0);
            for (int i = 0; i < p.size && t.threads > 1; i++) {
                for (int o = 0; mayTie(i) && o < flow.objects; o++) {
                    fillKnots(i, o);
                    knotsAt[i] += bitCount(now, 0, WORDS);
                }
                knots += knotsAt[i];
            }
        }

        /** Whether an instruction enters, or calls. */
        private boolean mayTie(int i) {
            int op = p.code[I_OP][i];
            return op == ENTER || op >= VIRTUAL && op <= CALL;
        }

        int tellKnot(int k, int what) {
            int n = k;
            for (int i = 0; i < p.size; i++) {
                if (n >= knotsAt[i]) {
                    n -= knotsAt[i];
                    continue;
                }
                for (int number = 0; number < flow.objects; number++) {
                    fillKnots(i, t.objectAt(number));
                    int here = bitCount(now, 0, WORDS);
                    if (n < here) {
                        return what == 0 ? i : what == 1 ? number : t.pick(now, n);
                    }
                    n -= here;
                }
            }
            return BAD;
        }

        boolean isKnot(int i, int o, int q) {
            if (o < 0 || q < 0 || t.threads < 2) {
                return false;
            }
            fillKnots(i, o);
            return hasBit(now, 0, q);
        }

        // ---- calls of wait()

        private void fillWaits() {
            Arrays.fill(waitAt, 0);
            waits = 0;
            for (int node = 0; node < flow.nodes; node++) {
                int i = flow.instructionOf(node);
                if ((flow.nodeTable[Flow.D_NATIVES][node] >> WAIT & 1) != 0) {
                    int at = receiverAt(node);
                    boolean one = bitCount(flow.sets, at, WORDS) == 1 && meet(flow.sets, at, t.singular, 0, WORDS)
                        && meet(flow.sets, at, sure, node * WORDS, WORDS);
                    waitAt[i] |= (one ? 0 : LOOSE) | (checker.comesBack(i) ? 0 : RASH);
                }
            }
            for (int i = 0; i < p.size; i++) {
                waits += waitAt[i] != 0 ? 1 : 0;
            }
        }

        int tellWait(int k, int what) {
            int n = k;
            for (int i = 0; i < p.size; i++) {
                if (waitAt[i] != 0 && n-- == 0) {
                    return what == 0 ? i : waitAt[i];
                }
            }
            return BAD;
        }
    }

    /** A question about methods, and its answer. */
    private static final class Question {
        private static final int OVER = -1;
        private static final int OPEN_WORD = -2;

        private final Program p;
        private final Reader names;
        private final Threads t;
        private final Monitors monitors;
        private final char[] signs = new char[QUESTION];
        private int size;
        private final long[] last = new long[2];
        private int total;
        /** For each open bracket the sum, the part, then what stands ahead of it. */
        private final long[] sums = new long[(BRACKETS + 1) * 2];
        private final long[] parts = new long[(BRACKETS + 1) * 2];
        private final int[] before = new int[BRACKETS + 1];
        private final int[] bound = new int[BRACKETS + 1];
        private final int[] applied = new int[BRACKETS + 1];
        private final long[] term = new long[2];
        private int level;
        private int at;
        private int end;
        private int sign;

        Question(Program program, Reader reader, Threads threads, Monitors judged) {
            p = program;
            names = reader;
            t = threads;
            monitors = judged;
        }

        void forget() {
            total = 0;
            last[0] = 0L;
            last[1] = 0L;
        }

        int add(int c) {
            if (c < 32 || c > 126 || size >= QUESTION) {
                return BAD;
            }
            signs[size++] = (char) c;
            return size;
        }

        int nth(int k) {
            return k < total ? t.pickMethod(last, 0, k) : BAD;
        }

        /** How many methods; or - 1 less the place of what can't come. */
        int solve() {
            boolean fine = read();
            int length = size;
            size = 0;
            if (!fine) {
                return -1 - Math.min(at, length);
            }
            System.arraycopy(sums, 0, last, 0, 2);
            total = bitCount(last, 0, 2);
            return total;
        }

        /** The next word or sign stands from at to end: its sign, OVER, OPEN_WORD. */
        private void next() {
            at = end;
            for (; at < size && signs[at] == ' '; at++) {
                continue;
            }
            end = Math.min(size, at + 1);
            sign = at >= size ? OVER : signs[at];
            if (at < size && Reader.opensWord(signs[at])) {
                for (; end < size && Reader.isInWord(signs[end]); end++) {
                    continue;
                }
                sign = OPEN_WORD;
            }
        }

        private void open(int level, int function) {
            sums[level * 2] = 0L;
            sums[level * 2 + 1] = 0L;
            before[level] = '|';
            bound[level] = 0;
            applied[level] = function;
        }

        private boolean read() {
            level = 0;
            end = 0;
            open(0, 0);
            next();
            boolean wants = true;
            for (int turn = 0; turn <= QUESTION; turn++) {
                if (wants) {
                    int read = readTerm();
                    if (read < 0) {
                        return false;
                    }
                    wants = read == 0;
                } else if (sign == OVER && level == 0) {
                    fold();
                    return true;
                } else if (sign == ')' && level > 0) {
                    fold();
                    close();
                    next();
                } else if (sign == '&' || sign == '|' || sign == '-') {
                    chain();
                    next();
                    wants = true;
                } else {
                    return false;
                }
            }
            return false;
        }

        /** Reads a term: 1; or a bracket that opens: 0; BAD if something can't come. */
        private int readTerm() {
            int word = sign == OPEN_WORD ? names.lookUp(signs, at, end) : BAD;
            boolean function = word >= W_CALLERS && word <= W_FROM;
            if (function) {
                next();
            }
            if (sign == '(' && level < BRACKETS) {
                level++;
                open(level, function ? word : 0);
                next();
                return 0;
            }
            if (function || sign != OPEN_WORD) {
                return BAD;
            }
            if (word >= W_MAIN && word <= W_STARTING) {
                fillKnown(word);
                next();
            } else if (!readClass(word)) {
                return BAD;
            }
            give();
            return 1;
        }

        /** Reads a class's name, and perhaps a full stop and a word. */
        private boolean readClass(int word) {
            int c = word < RESERVED ? BAD : p.named(word);
            if (c < 0) {
                return false;
            }
            next();
            boolean all = sign != '.';
            int name = BAD;
            if (!all) {
                next();
                if (sign != OPEN_WORD) {
                    return false;
                }
                name = names.lookUp(signs, at, end);
                next();
            }
            term[0] = 0L;
            term[1] = 0L;
            int from = p.cls[C_METHOD][c];
            for (int m = from; m < from + p.cls[C_METHODS][c]; m++) {
                if (all || p.mth[M_NAME][m] == name) {
                    addBit(term, 0, m);
                }
            }
            return true;
        }

        private void fillKnown(int word) {
            term[0] = 0L;
            term[1] = 0L;
            for (int m = 0; m < p.methods; m++) {
                boolean is = word == W_ALL || word == W_MAIN && m == p.main;
                switch (word) {
                    case W_REACHED: is = t.isReached(m); break;
                    case W_NATIVE: is = p.hasFlag(m, NATIVE); break;
                    case W_RACING: is = monitors.isRacing(m); break;
                    case W_LOCKING: is = p.hasFlag(m, SYNCHRONIZED) || hasOp(m, ENTER); break;
                    case W_STARTING: is = t.isStarting(m); break;
                    default: break;
                }
                if (is) {
                    addBit(term, 0, m);
                }
            }
        }

        private boolean hasOp(int m, int op) {
            int from = p.mth[M_FIRST][m];
            for (int i = from; i < from + p.mth[M_COUNT][m]; i++) {
                if (p.code[I_OP][i] == op) {
                    return true;
                }
            }
            return false;
        }

        /** A term was read: it is the part, or is bound to it by &. */
        private void give() {
            for (int w = 0; w < 2; w++) {
                int at = level * 2 + w;
                parts[at] = bound[level] != 0 ? parts[at] & term[w] : term[w];
            }
        }

        /** The sign &, | or - was read. */
        private void chain() {
            if (sign != '&') {
                fold();
                before[level] = sign;
            }
            bound[level] = sign == '&' ? 1 : 0;
        }

        /** The part goes into the sum. */
        private void fold() {
            for (int w = 0; w < 2; w++) {
                int at = level * 2 + w;
                sums[at] = before[level] == '|' ? sums[at] | parts[at] : sums[at] & ~parts[at];
            }
        }

        /** A bracket ends: what stands ahead of it is applied to its sum, which is a term of the level below. */
        private void close() {
            int function = applied[level];
            term[0] = sums[level * 2];
            term[1] = sums[level * 2 + 1];
            boolean again = function == W_INTO || function == W_FROM;
            boolean back = function == W_INTO || function == W_CALLERS;
            for (int turn = 0; function != 0 && turn < (again ? METHODS : 1); turn++) {
                t.follow(term, back, again);
            }
            level--;
            give();
        }
    }

    /** The things of a run, what was said and noted, and which classes began. */
    private static final class Heap {
        private static final int H_TYPE = 0;
        private static final int H_SITE = 1;
        private static final int H_CONTEXT = 2;
        private static final int H_OWNER = 3;
        private static final int H_ENTERED = 4;
        private static final int H_LENGTH = 5;
        private static final int H_THREAD = 6;
        /** Values are numbers of 32 bits, or this and a thing's number. */
        private static final long REFERENCE = 1L << 32;
        private static final long NO_THING = REFERENCE | 0xffffffffL;
        // a class has not begun; it has; otherwise the thread that is at its beginning
        private static final int NOT_BEGUN = -1;
        private static final int BEGUN = THREADS;

        private final Program p;
        int things;
        final int[][] thing = new int[7][THINGS];
        /** Fields, elements, what lambdas have; the last row is of static fields. */
        final long[] slots = new long[(THINGS + 1) * FIELDS];
        /** The things that there are once: of STRINGS, CLASSES, METHODS. */
        private final int[] single = new int[STRINGS + CLASSES + METHODS];
        final int[] said = new int[SAID];
        int saids;
        /** What was noted by hook: things, then instructions, then nodes. */
        final int[] noted = new int[THINGS * 3];
        int notes;
        final int[] begun = new int[CLASSES];

        Heap(Program program) {
            p = program;
        }

        void clean() {
            things = 0;
            saids = 0;
            notes = 0;
            Arrays.fill(single, BAD);
            Arrays.fill(begun, NOT_BEGUN);
            fillDefaults(THINGS);
        }

        static long reference(int n) {
            return REFERENCE | n & 0xffffffffL;
        }

        static boolean isReference(long v) {
            return (v & REFERENCE) != 0;
        }

        private void fillDefaults(int row) {
            for (int f = 0; f < FIELDS; f++) {
                boolean number = f < p.fields && p.fld[F_TYPE][f] == INT;
                slots[row * FIELDS + f] = number ? 0L : NO_THING;
            }
        }

        boolean isFull(int more) {
            return things + more > THINGS;
        }

        /** Makes a thing of a site; BAD if there would be too many. */
        int make(int site, int context) {
            if (things >= THINGS) {
                return BAD;
            }
            int n = things++;
            thing[H_TYPE][n] = p.typeOf(site);
            thing[H_SITE][n] = site;
            thing[H_CONTEXT][n] = context;
            thing[H_OWNER][n] = BAD;
            thing[H_ENTERED][n] = 0;
            thing[H_LENGTH][n] = 0;
            thing[H_THREAD][n] = BAD;
            fillDefaults(n);
            return n;
        }

        void makeElements(int n, int length) {
            thing[H_LENGTH][n] = length;
            for (int k = 0; k < length && k < FIELDS; k++) {
                slots[n * FIELDS + k] = thing[H_TYPE][n] == INTS ? 0L : NO_THING;
            }
        }

        private static int singleAt(int site) {
            if (site < CLASS_SITES) {
                return site - STRING_SITES;
            }
            return site < METHOD_SITES ? STRINGS + site - CLASS_SITES : STRINGS + CLASSES + site - METHOD_SITES;
        }

        /** The thing of a STRING, CLASS or METHOD; BAD if it is not there yet. */
        int known(int site) {
            return single[singleAt(site)];
        }

        /** The same, which is made if it is not there; BAD if there would be too many things. */
        int knownOrMade(int site) {
            int at = singleAt(site);
            if (single[at] < 0) {
                single[at] = make(site, NONE);
            }
            return single[at];
        }

        boolean isTaken(int n, int t) {
            return n >= 0 && thing[H_OWNER][n] >= 0 && thing[H_OWNER][n] != t;
        }

        /** How many classes began, those at their beginning too. */
        int begunCount() {
            int n = 0;
            for (int c = 0; c < p.classes; c++) {
                n += begun[c] != NOT_BEGUN ? 1 : 0;
            }
            return n;
        }

        void note(int n, int i, int node) {
            for (int k = 0; k < notes; k++) {
                if (noted[k * 3] == n) {
                    return;
                }
            }
            if (notes < THINGS) {
                noted[notes * 3] = n;
                noted[notes * 3 + 1] = i;
                noted[notes * 3 + 2] = node;
                notes++;
            }
        }

        int tell(int n, int what) {
            switch (what) {
                case 0: return thing[H_TYPE][n];
                case 1: return thing[H_SITE][n];
                case 2: return thing[H_LENGTH][n];
                case 3: return thing[H_ENTERED][n];
                case 4: return thing[H_OWNER][n];
                default: return BAD;
            }
        }

        int slotValue(int n, int f) {
            if (f >= p.fields) {
                return BAD;
            }
            if (f >= 0 && (p.fld[F_FLAGS][f] & STATIC) != 0) {
                return (int) slots[THINGS * FIELDS + f];
            }
            if (n < 0 || n >= things) {
                return BAD;
            }
            if (f < 0) {
                return -1 - f < thing[H_LENGTH][n] ? (int) slots[n * FIELDS - 1 - f] : BAD;
            }
            boolean has = thing[H_TYPE][n] >= 0 && p.fits(thing[H_TYPE][n], p.fld[F_CLASS][f]);
            return has ? (int) slots[n * FIELDS + f] : BAD;
        }
    }

    /** What happens before what, and the clashes of accesses that neither does. */
    private static final class Clocks {
        private static final int PLACE_MARKS = 2 * THREADS;

        private final Monitors monitors;
        private final Flow flow;
        /** The counts that each thread has, those left at things and by the beginnings of classes. */
        private final int[] now = new int[THREADS * THREADS];
        private final int[] left = new int[THINGS * THREADS];
        private final int[] begun = new int[CLASSES * THREADS];
        /** For each place and thread the last reading, then the last writing; of volatile ones counts. */
        private final int[] seen = new int[(THINGS + 1) * FIELDS * PLACE_MARKS];
        private final long[] met = new long[CODE * CODE_WORDS];
        final int[] lesser = new int[CLASHES];
        final int[] greater = new int[CLASHES];
        int kept;
        int total;
        boolean good;

        Clocks(Monitors judged, Flow solved) {
            monitors = judged;
            flow = solved;
        }

        /** Forgets a run that had so many things, of a program that has so many instructions. */
        void clean(int things, int size) {
            Arrays.fill(now, 0);
            Arrays.fill(met, 0, size * CODE_WORDS, 0L);
            Arrays.fill(begun, 0);
            Arrays.fill(left, 0, things * THREADS, 0);
            Arrays.fill(seen, 0, things * FIELDS * PLACE_MARKS, 0);
            Arrays.fill(seen, THINGS * FIELDS * PLACE_MARKS, (THINGS + 1) * FIELDS * PLACE_MARKS, 0);
            kept = 0;
            total = 0;
            good = true;
            now[0] = 1;
        }

        private void join(int[] to, int a, int[] from, int b) {
            for (int u = 0; u < THREADS; u++) {
                if (from[b + u] > to[a + u]) {
                    to[a + u] = from[b + u];
                }
            }
        }

        private void tick(int t) {
            now[t * THREADS + t]++;
        }

        void exit(int t, int n) {
            join(left, n * THREADS, now, t * THREADS);
            tick(t);
        }

        void enter(int t, int n) {
            join(now, t * THREADS, left, n * THREADS);
        }

        void endClass(int t, int c) {
            join(begun, c * THREADS, now, t * THREADS);
            tick(t);
        }

        void findBegun(int t, int c) {
            join(now, t * THREADS, begun, c * THREADS);
        }

        /** A thread u begins behind what t did; behind() adds more of what is before it. */
        void fork(int t, int u) {
            behind(u, t);
            now[u * THREADS + u] = 1;
            tick(t);
        }

        void behind(int u, int t) {
            join(now, u * THREADS, now, t * THREADS);
        }

        void readVolatile(int t, int place) {
            join(now, t * THREADS, seen, place * PLACE_MARKS);
        }

        void writeVolatile(int t, int place) {
            join(seen, place * PLACE_MARKS, now, t * THREADS);
            tick(t);
        }

        void access(int t, int place, int i, boolean writes, int threads) {
            int at = place * PLACE_MARKS;
            for (int u = 0; u < threads; u++) {
                if (u != t) {
                    compare(t, u, writes ? seen[at + u] : 0, i);
                    compare(t, u, seen[at + THREADS + u], i);
                }
            }
            seen[at + (writes ? THREADS : 0) + t] = now[t * THREADS + t] << 10 | i;
        }

        private void compare(int t, int u, int mark, int i) {
            if (mark == 0 || mark >>> 10 <= now[t * THREADS + u]) {
                return;
            }
            int j = mark & 1023;
            int low = Math.min(i, j);
            int high = Math.max(i, j);
            if (!addBit(met, low * CODE_WORDS, high)) {
                return;
            }
            if (kept < CLASHES) {
                lesser[kept] = low;
                greater[kept] = high;
                kept++;
            }
            total++;
            good = good && (!flow.done || monitors.isRace(low, high));
        }
    }

    /** Runs the program: threads, their frames, and their steps. */
    private static final class Machine {
        // how a thread is; TOLD it was sleeping, and wants its monitor back
        private static final int GOES = 0;
        private static final int BLOCKED = 1;
        private static final int SLEEPS = 2;
        private static final int AWAITS = 3;
        private static final int ENDED = 4;
        private static final int TOLD = 5;
        // what became of a step: too much; done; it goes on; a new thing is thrown; a thing is
        private static final int FULL = 0;
        private static final int DONE = 1;
        private static final int ON = 2;
        private static final int RAISES = 3;
        private static final int THROWS = 4;
        // columns of threads
        private static final int T_FRAMES = 0;
        private static final int T_MODE = 1;
        private static final int T_AT = 2;
        private static final int T_COUNT = 3;
        private static final int T_SINCE = 4;
        private static final int T_THING = 5;
        private static final int T_CODE = 6;
        private static final int T_NODE = 7;
        private static final int T_RUN = 8;
        private static final int T_NEXT = 9;
        private static final int T_WANT = 10;
        private static final int T_COLUMNS = 11;
        // columns of frames
        private static final int R_METHOD = 0;
        private static final int R_CODE = 1;
        private static final int R_HEIGHT = 2;
        private static final int R_CONTEXT = 3;
        private static final int R_INSTANCE = 4;
        private static final int R_LOCK = 5;
        private static final int R_LOCKS = 6;
        private static final int R_NATIVE = 7;
        private static final int R_THING = 8;
        private static final int R_CLASS = 9;
        private static final int R_GROUP = 10;
        private static final int R_ENTERED = 11;
        private static final int R_FROM = 12;
        private static final int R_COLUMNS = 13;
        private static final int UNSEEN = -2;
        // a clinit's frame: the lowest that an instruction let begin, or that none did; above that
        private static final int LOWEST = 1;
        private static final int FIRST = 2;
        private static final int ABOVE = 3;
        // where a frame is from
        private static final int CALLED = 1;
        private static final int STARTED = 2;
        // what the instruction of a call comes to
        private static final int P_METHOD = 0;
        private static final int P_RECEIVER = 1;
        private static final int P_LAMBDA = 2;
        private static final int P_VALUES = 3;
        private static final int P_BEGIN = 4;
        private static final int P_THEN = 5;
        private static final int P_RAISE = 6;
        private static final int P_NATIVE = 7;
        private static final int P_WHAT = 8;
        private static final int P_AT = 9;
        private static final int P_COLUMNS = 10;

        private final Program p;
        private final Flow flow;
        private final Monitors monitors;
        private final Heap heap;
        private final Clocks clocks;
        boolean live;
        boolean good;
        private boolean over;
        private int steps;
        private int rings;
        private int ringed;
        private int naps;
        /** Classes that began at once in this step. */
        private long fresh;
        int threads;
        private final int[][] thread = new int[T_COLUMNS][THREADS];
        private final int[][] frame = new int[R_COLUMNS][THREADS * FRAMES];
        private final int[] entered = new int[THREADS * FRAMES * ROW];
        private final long[] values = new long[THREADS * FRAMES * PLACES];
        private final int[] plan = new int[P_COLUMNS];

        Machine(Program program, Flow solved, Monitors judged, Heap things, Clocks counts) {
            p = program;
            flow = solved;
            monitors = judged;
            heap = things;
            clocks = counts;
        }

        void open() {
            clocks.clean(heap.things, p.size);
            heap.clean();
            live = true;
            good = true;
            over = false;
            steps = 0;
            rings = 0;
            ringed = 0;
            naps = 0;
            threads = 1;
            fillThread(0, BAD, BAD, BAD);
            push(0, p.main, NONE, 0);
            letBegin(0, p.mth[M_CLASS][p.main], FIRST);
            foresee(0);
        }

        private void fillThread(int t, int n, int i, int node) {
            thread[T_FRAMES][t] = 0;
            thread[T_MODE][t] = GOES;
            thread[T_AT][t] = BAD;
            thread[T_THING][t] = n;
            thread[T_CODE][t] = i;
            thread[T_NODE][t] = node;
            thread[T_RUN][t] = 0;
        }

        // ---- frames

        private int top(int t) {
            return t * FRAMES + thread[T_FRAMES][t] - 1;
        }

        /** A frame comes; it enters its LOCK by its first step, if nothing else is said. */
        private int push(int t, int m, int context, int from) {
            int f = t * FRAMES + thread[T_FRAMES][t]++;
            frame[R_METHOD][f] = m;
            frame[R_CODE][f] = p.mth[M_FIRST][m];
            frame[R_HEIGHT][f] = 0;
            frame[R_CONTEXT][f] = context;
            frame[R_INSTANCE][f] = UNSEEN;
            frame[R_LOCK][f] = BAD;
            frame[R_LOCKS][f] = p.hasFlag(m, SYNCHRONIZED) ? 1 : 0;
            frame[R_NATIVE][f] = BAD;
            frame[R_THING][f] = BAD;
            frame[R_CLASS][f] = BAD;
            frame[R_GROUP][f] = 0;
            frame[R_ENTERED][f] = 0;
            frame[R_FROM][f] = from;
            Arrays.fill(values, f * PLACES, (f + 1) * PLACES, 0L);
            return f;
        }

        /** What stands in a place; 0 where there is no such place, as above a full stack. */
        private long valueAt(int f, int place) {
            return f >= 0 && place >= 0 && place < PLACES ? values[f * PLACES + place] : 0L;
        }

        private void put(int f, int place, long v) {
            if (f >= 0 && place >= 0 && place < PLACES) {
                values[f * PLACES + place] = v;
            }
        }

        /** Where what an instruction takes stands. */
        private int baseOf(int f, int i) {
            return LOCALS + frame[R_HEIGHT][f] - p.takes(i);
        }

        /** An instruction ends: it took what it takes, and leaves a value, if it leaves one. */
        private int finish(int f, int i, long v) {
            int base = baseOf(f, i);
            if (p.leaves(i) > 0) {
                put(f, base, v);
            }
            frame[R_HEIGHT][f] = base - LOCALS + p.leaves(i);
            frame[R_CODE][f] = i + 1;
            return DONE;
        }

        private int raise(int c) {
            plan[P_RAISE] = c;
            return RAISES;
        }

        // ---- monitors

        private void take(int t, int n) {
            heap.thing[Heap.H_OWNER][n] = t;
            heap.thing[Heap.H_ENTERED][n]++;
            clocks.enter(t, n);
        }

        private void letGo(int t, int n) {
            int count = heap.thing[Heap.H_ENTERED][n] - 1;
            heap.thing[Heap.H_ENTERED][n] = count;
            if (count == 0) {
                heap.thing[Heap.H_OWNER][n] = BAD;
                clocks.exit(t, n);
            }
        }

        /** The thing of a method's LOCK; BAD if it is a CLASS that is no thing yet. */
        private int lockOf(int m, int receiver) {
            return p.hasFlag(m, STATIC) ? heap.known(CLASS_SITES + p.mth[M_CLASS][m]) : receiver;
        }

        // ---- whether a thread can go on

        private int waitOf(int t) {
            plan[P_AT] = BAD;
            int mode = thread[T_MODE][t];
            if (mode == ENDED) {
                return ENDED;
            }
            if (mode == SLEEPS) {
                plan[P_AT] = thread[T_AT][t];
                return SLEEPS;
            }
            if (mode == TOLD) {
                return blockedBy(thread[T_AT][t], t);
            }
            int f = top(t);
            int i = frame[R_CODE][f];
            if (frame[R_LOCKS][f] != 0) {
                return blockedBy(lockOf(frame[R_METHOD][f], (int) valueAt(f, 0)), t);
            }
            int target = p.code[I_TARGET][i];
            switch (p.code[I_OP][i]) {
                case ENTER: return blockedBy((int) valueAt(f, baseOf(f, i)), t);
                case GET_STATIC:
                case PUT_STATIC: return isHeldUp(t, p.fld[F_CLASS][target]) ? AWAITS : GOES;
                case NEW: return isHeldUp(t, target) ? AWAITS : GOES;
                case VIRTUAL:
                case SPECIAL:
                case CALL:
                    planCall(t, f, i);
                    return waitOfCall(t);
                default: return GOES;
            }
        }

        private int blockedBy(int n, int t) {
            if (!heap.isTaken(n, t)) {
                return GOES;
            }
            plan[P_AT] = n;
            return BLOCKED;
        }

        /** Whether another thread is at the beginning of a class, or of one that it extends. */
        private boolean isHeldUp(int t, int c) {
            for (int d = c, n = 0; d >= 0 && n < CLASSES; d = p.cls[C_UP][d], n++) {
                int who = heap.begun[d];
                if (who != Heap.NOT_BEGUN && who != Heap.BEGUN && who != t) {
                    return true;
                }
            }
            return false;
        }

        /** How many frames come, if a class begins. */
        private int framesOf(int c) {
            int n = 0;
            for (int d = c, k = 0; d >= 0 && k < CLASSES; d = p.cls[C_UP][d], k++) {
                n += heap.begun[d] == Heap.NOT_BEGUN && p.cls[C_CLINIT][d] >= 0 ? 1 : 0;
            }
            return n;
        }

        private int waitOfCall(int t) {
            if (isHeldUp(t, plan[P_BEGIN]) || isHeldUp(t, plan[P_THEN])) {
                return AWAITS;
            }
            if (plan[P_RAISE] >= 0 || framesOf(plan[P_BEGIN]) + framesOf(plan[P_THEN]) > 0) {
                return GOES;
            }
            if (plan[P_NATIVE] == JOIN) {
                int u = heap.thing[Heap.H_THREAD][plan[P_RECEIVER]];
                return u >= 0 && thread[T_MODE][u] != ENDED ? AWAITS : GOES;
            }
            int m = plan[P_METHOD];
            if (m < 0 || !p.hasFlag(m, SYNCHRONIZED)) {
                return GOES;
            }
            return blockedBy(lockOf(m, plan[P_RECEIVER]), t);
        }

        // ---- what a call comes to

        private void planCall(int t, int f, int i) {
            Arrays.fill(plan, BAD);
            int base = baseOf(f, i);
            int m = p.code[I_TARGET][i];
            plan[P_VALUES] = base;
            if (p.code[I_OP][i] == CALL) {
                plan[P_BEGIN] = p.mth[M_CLASS][m];
                if (p.hasFlag(m, NATIVE)) {
                    plan[P_NATIVE] = m;
                    planFixed(m, (int) valueAt(f, base));
                } else {
                    plan[P_METHOD] = m;
                }
                return;
            }
            int n = (int) valueAt(f, base);
            plan[P_VALUES] = base + 1;
            plan[P_RECEIVER] = n;
            if (n < 0) {
                plan[P_RAISE] = NULL_POINTER;
                return;
            }
            m = p.callee(i, heap.thing[Heap.H_SITE][n]);
            if (m < 0) {
                plan[P_RAISE] = NO_METHOD;
            } else if (p.hasFlag(m, NATIVE)) {
                plan[P_NATIVE] = m;
                planNative(t, m, n, (int) valueAt(f, base + 1));
            } else {
                plan[P_METHOD] = m;
                plan[P_LAMBDA] = p.hasFlag(m, STATIC) ? n : BAD;
            }
        }

        private void planFixed(int m, int v) {
            if (m == PRINT) {
                return;
            }
            if (v < 0) {
                plan[P_RAISE] = NULL_POINTER;
            } else if (m == NAMED) {
                int c = p.classTold(heap.thing[Heap.H_SITE][v]);
                plan[P_RAISE] = c < 0 ? NO_CLASS : BAD;
                plan[P_THEN] = c;
                plan[P_WHAT] = CLASS_SITES + c;
            }
        }

        private void planNative(int t, int m, int n, int v) {
            int site = heap.thing[Heap.H_SITE][n];
            switch (m) {
                case WAIT:
                case NOTIFY:
                case NOTIFY_ALL:
                    plan[P_RAISE] = heap.thing[Heap.H_OWNER][n] == t ? BAD : MONITOR;
                    break;
                case NEW_INSTANCE:
                    int c = p.classAt(site);
                    if (c < 0 || p.isKind(c, INTERFACE | ABSTRACT_CLASS)) {
                        plan[P_RAISE] = NO_CLASS;
                    } else {
                        plan[P_THEN] = c;
                        plan[P_METHOD] = p.find(c, 0);
                        plan[P_WHAT] = INSTANCE_SITES + c;
                    }
                    break;
                case FIND:
                    planFind(p.classAt(site), v);
                    break;
                case INVOKE:
                    planInvoke(p.methodAt(site), v);
                    break;
                case START:
                    plan[P_RAISE] = heap.thing[Heap.H_THREAD][n] >= 0 ? STATE : BAD;
                    break;
                default:
                    break;
            }
        }

        private void planFind(int c, int v) {
            if (v < 0) {
                plan[P_RAISE] = NULL_POINTER;
                return;
            }
            int name = p.nameAt(heap.thing[Heap.H_SITE][v]);
            int m = c < 0 || name < 0 ? BAD : p.findNamed(c, name);
            plan[P_RAISE] = m < 0 ? NO_METHOD : BAD;
            plan[P_WHAT] = METHOD_SITES + m;
        }

        private void planInvoke(int m, int v) {
            plan[P_RECEIVER] = BAD;
            if (m < 0) {
                plan[P_RAISE] = CAST;
            } else if (p.hasFlag(m, STATIC)) {
                plan[P_THEN] = p.mth[M_CLASS][m];
                plan[P_METHOD] = m;
            } else if (v < 0) {
                plan[P_RAISE] = NULL_POINTER;
            } else if (!p.fits(heap.thing[Heap.H_TYPE][v], p.mth[M_CLASS][m])) {
                plan[P_RAISE] = CAST;
            } else {
                int site = heap.thing[Heap.H_SITE][v];
                boolean lambda = p.isLambdaFor(site, p.mth[M_SIGN][m]);
                int called = lambda ? p.code[I_TARGET][site] : p.select(heap.thing[Heap.H_TYPE][v], p.mth[M_SIGN][m]);
                boolean none = called < 0 || p.hasFlag(called, NATIVE);
                plan[P_RAISE] = none ? NO_METHOD : BAD;
                plan[P_METHOD] = none ? BAD : called;
                plan[P_LAMBDA] = lambda ? v : BAD;
                plan[P_RECEIVER] = v;
            }
        }

        // ---- steps

        int go(int t) {
            if (over || t < 0 || t >= threads || waitOf(t) != GOES) {
                return 0;
            }
            fresh = 0L;
            int were = threads;
            int f = top(t);
            int i = frame[R_CODE][f];
            int became;
            if (thread[T_MODE][t] == TOLD) {
                became = wakeUp(t);
            } else if (frame[R_LOCKS][f] != 0) {
                became = enterLock(t, f, (int) valueAt(f, 0));
            } else {
                became = perform(t, f, i);
            }
            if (became == RAISES) {
                plan[P_WHAT] = heap.make(MACHINE_SITES + plan[P_RAISE], NONE);
                became = plan[P_WHAT] < 0 ? FULL : THROWS;
            }
            if (became == FULL) {
                over = true;
                undoBegun();
                return 0;
            }
            if (became == THROWS) {
                unwind(t, plan[P_WHAT]);
            }
            steps++;
            if (thread[T_FRAMES][t] == 0) {
                thread[T_MODE][t] = ENDED;
            }
            beginHooked();
            foresee(t);
            for (int u = were; u < threads; u++) {
                foresee(u);
            }
            findRings();
            return 1;
        }

        private void undoBegun() {
            for (int c = 0; c < p.classes; c++) {
                if ((fresh >>> c & 1L) != 0) {
                    heap.begun[c] = Heap.NOT_BEGUN;
                }
            }
        }

        /** A thread that slept has its monitor as before; its wait is behind it already. */
        private int wakeUp(int t) {
            int n = thread[T_AT][t];
            take(t, n);
            heap.thing[Heap.H_ENTERED][n] = thread[T_COUNT][t];
            thread[T_MODE][t] = GOES;
            return DONE;
        }

        /** The first step of a frame of run, uncaught or MAIN that is 'synchronized'. */
        private int enterLock(int t, int f, int receiver) {
            int m = frame[R_METHOD][f];
            int n = p.hasFlag(m, STATIC) ? heap.knownOrMade(CLASS_SITES + p.mth[M_CLASS][m]) : receiver;
            if (n < 0) {
                return FULL;
            }
            take(t, n);
            frame[R_LOCK][f] = n;
            frame[R_LOCKS][f] = 0;
            return DONE;
        }

        private int perform(int t, int f, int i) {
            int op = p.code[I_OP][i];
            if (op >= ADD && op <= SHR) {
                return calculate(f, i, op);
            }
            if (op >= GOTO && op <= IF_SOME) {
                return jump(f, i, op);
            }
            switch (op) {
                case GET:
                case PUT: return useField(t, f, i, op);
                case GET_STATIC:
                case PUT_STATIC: return useStatic(t, f, i, op);
                case NEW: return makeNew(t, f, i);
                case ARRAY: return makeArray(f, i);
                case ELEMENT:
                case SET_ELEMENT: return useElement(t, f, i, op);
                case LENGTH:
                case CAST_TO:
                case IS: return lookAtThing(f, i, op);
                case VIRTUAL:
                case SPECIAL:
                case CALL: return call(t, f, i);
                case LAMBDA: return makeLambda(f, i);
                case ENTER:
                case EXIT: return useMonitor(t, f, i, op);
                case THROW:
                    plan[P_WHAT] = (int) valueAt(f, baseOf(f, i));
                    return plan[P_WHAT] < 0 ? raise(NULL_POINTER) : THROWS;
                case RETURN:
                case GIVE: return leave(t, f, i, op);
                default: return moveValue(f, i, op);
            }
        }

        /** Pushes, loads, stores, copies. */
        private int moveValue(int f, int i, int op) {
            int base = baseOf(f, i);
            int a = p.code[I_A][i];
            switch (op) {
                case PUSH: return finish(f, i, a & 0xffffffffL);
                case TEXT_OF:
                    int n = heap.knownOrMade(STRING_SITES + p.code[I_TARGET][i]);
                    return n < 0 ? FULL : finish(f, i, Heap.reference(n));
                case NULL: return finish(f, i, Heap.NO_THING);
                case LOAD: return finish(f, i, valueAt(f, a));
                case STORE_LOCAL:
                    put(f, a, valueAt(f, base));
                    return finish(f, i, 0L);
                case INC:
                    put(f, a, (int) valueAt(f, a) + p.code[I_TYPE][i] & 0xffffffffL);
                    return finish(f, i, 0L);
                case DUP:
                    put(f, base + 1, valueAt(f, base));
                    return finish(f, i, valueAt(f, base));
                case UNDER:
                    put(f, base + 2, valueAt(f, base + 1));
                    put(f, base + 1, valueAt(f, base));
                    return finish(f, i, valueAt(f, base + 2));
                case SWAP:
                    long last = valueAt(f, base + 1);
                    put(f, base + 1, valueAt(f, base));
                    return finish(f, i, last);
                default: return finish(f, i, 0L);
            }
        }

        private int calculate(int f, int i, int op) {
            int base = baseOf(f, i);
            int a = (int) valueAt(f, base);
            int b = op == NEG ? 0 : (int) valueAt(f, base + 1);
            int v = 0;
            switch (op) {
                case ADD: v = a + b; break;
                case SUB: v = a - b; break;
                case MUL: v = a * b; break;
                case DIV:
                case REM:
                    if (b == 0) {
                        return raise(ARITHMETIC);
                    }
                    v = op == DIV ? a / b : a % b;
                    break;
                case NEG: v = -a; break;
                case AND: v = a & b; break;
                case OR: v = a | b; break;
                case XOR: v = a ^ b; break;
                case SHL: v = a << (b & 31); break;
                default: v = a >> (b & 31); break;
            }
            return finish(f, i, v & 0xffffffffL);
        }

        private int jump(int f, int i, int op) {
            int base = baseOf(f, i);
            int a = (int) valueAt(f, base);
            boolean two = op >= CMP_EQ && op <= OTHER;
            int b = two ? (int) valueAt(f, base + 1) : 0;
            boolean goes = true;
            if (op >= IF_EQ && op <= CMP_LE) {
                goes = compares((op - IF_EQ) % 6, a, b);
            } else if (op == SAME || op == OTHER) {
                goes = (a == b) == (op == SAME);
            } else if (op == IF_NULL || op == IF_SOME) {
                goes = a < 0 == (op == IF_NULL);
            }
            finish(f, i, 0L);
            if (goes) {
                frame[R_CODE][f] = p.code[I_TARGET][i];
            }
            return DONE;
        }

        private static boolean compares(int how, int a, int b) {
            switch (how) {
                case 0: return a == b;
                case 1: return a != b;
                case 2: return a < b;
                case 3: return a >= b;
                case 4: return a > b;
                default: return a <= b;
            }
        }

        // ---- fields, elements, things

        /** One place is read or written. */
        private void touch(int t, int place, int f, int i, boolean writes) {
            int flags = f < 0 ? 0 : p.fld[F_FLAGS][f];
            if ((flags & VOLATILE) != 0) {
                if (writes) {
                    clocks.writeVolatile(t, place);
                } else {
                    clocks.readVolatile(t, place);
                }
            } else if ((flags & FINAL) == 0) {
                clocks.access(t, place, i, writes, threads);
            }
        }

        /** What comes into a field or element of an object (OBJECTS: static) is to be foreseen there. */
        private void foreseeSlot(int o, int slot, long v) {
            if (!flow.done || !Heap.isReference(v) || (int) v < 0) {
                return;
            }
            int q = objectOf((int) v);
            good = good && o >= 0 && q >= 0 && hasBit(flow.slots, Flow.slot(o, slot), q);
        }

        private int objectOf(int n) {
            return flow.findObject(heap.thing[Heap.H_SITE][n], heap.thing[Heap.H_CONTEXT][n]);
        }

        private int useField(int t, int f, int i, int op) {
            int base = baseOf(f, i);
            int n = (int) valueAt(f, base);
            int target = p.code[I_TARGET][i];
            if (n < 0) {
                return raise(NULL_POINTER);
            }
            int place = n * FIELDS + target;
            touch(t, place, target, i, op == PUT);
            if (op == GET) {
                return finish(f, i, heap.slots[place]);
            }
            heap.slots[place] = valueAt(f, base + 1);
            if (flow.done) {
                foreseeSlot(objectOf(n), target, heap.slots[place]);
            }
            return finish(f, i, 0L);
        }

        private int useStatic(int t, int f, int i, int op) {
            int target = p.code[I_TARGET][i];
            int became = letBegin(t, p.fld[F_CLASS][target], LOWEST);
            if (became != ON) {
                return became;
            }
            int place = THINGS * FIELDS + target;
            touch(t, place, target, i, op == PUT_STATIC);
            if (op == GET_STATIC) {
                return finish(f, i, heap.slots[place]);
            }
            heap.slots[place] = valueAt(f, baseOf(f, i));
            foreseeSlot(OBJECTS, target, heap.slots[place]);
            return finish(f, i, 0L);
        }

        private int contextIn(int f) {
            return flow.done ? flow.contextIn(frame[R_CONTEXT][f]) : NONE;
        }

        private int makeNew(int t, int f, int i) {
            int became = letBegin(t, p.code[I_TARGET][i], LOWEST);
            if (became != ON) {
                return became;
            }
            int n = heap.make(i, contextIn(f));
            return n < 0 ? FULL : finish(f, i, Heap.reference(n));
        }

        private int makeArray(int f, int i) {
            int length = (int) valueAt(f, baseOf(f, i));
            if (length < 0 || length > ELEMENTS) {
                return raise(SIZE);
            }
            int n = heap.make(i, contextIn(f));
            if (n < 0) {
                return FULL;
            }
            heap.makeElements(n, length);
            return finish(f, i, Heap.reference(n));
        }

        private int makeLambda(int f, int i) {
            int base = baseOf(f, i);
            int n = heap.make(i, contextIn(f));
            if (n < 0) {
                return FULL;
            }
            for (int k = 0; k < p.takes(i); k++) {
                heap.slots[n * FIELDS + k] = valueAt(f, base + k);
            }
            return finish(f, i, Heap.reference(n));
        }

        private int useElement(int t, int f, int i, int op) {
            int base = baseOf(f, i);
            int n = (int) valueAt(f, base);
            int k = (int) valueAt(f, base + 1);
            if (n < 0) {
                return raise(NULL_POINTER);
            }
            if (k < 0 || k >= heap.thing[Heap.H_LENGTH][n]) {
                return raise(INDEX);
            }
            int place = n * FIELDS + k;
            if (op == ELEMENT) {
                touch(t, place, BAD, i, false);
                return finish(f, i, heap.slots[place]);
            }
            long v = valueAt(f, base + 2);
            int type = INTS - 1 - heap.thing[Heap.H_TYPE][n];
            if (Heap.isReference(v) && (int) v >= 0 && !p.fits(heap.thing[Heap.H_TYPE][(int) v], type)) {
                return raise(STORE);
            }
            touch(t, place, BAD, i, true);
            heap.slots[place] = v;
            if (flow.done) {
                foreseeSlot(objectOf(n), 0, v);
            }
            return finish(f, i, 0L);
        }

        private int lookAtThing(int f, int i, int op) {
            long v = valueAt(f, baseOf(f, i));
            int n = (int) v;
            boolean fits = n >= 0 && op != LENGTH && p.fits(heap.thing[Heap.H_TYPE][n], p.code[I_TARGET][i]);
            if (op == IS) {
                return finish(f, i, fits ? 1L : 0L);
            }
            if (op == CAST_TO) {
                return n < 0 || fits ? finish(f, i, v) : raise(CAST);
            }
            return n < 0 ? raise(NULL_POINTER) : finish(f, i, heap.thing[Heap.H_LENGTH][n]);
        }

        private int useMonitor(int t, int f, int i, int op) {
            int n = (int) valueAt(f, baseOf(f, i));
            if (n < 0) {
                return raise(NULL_POINTER);
            }
            int count = frame[R_ENTERED][f];
            if (op == ENTER) {
                if (count >= ROW) {
                    return FULL;
                }
                take(t, n);
                entered[f * ROW + count] = n;
                frame[R_ENTERED][f] = count + 1;
                return finish(f, i, 0L);
            }
            if (count == 0 || entered[f * ROW + count - 1] != n) {
                return raise(MONITOR);
            }
            frame[R_ENTERED][f] = count - 1;
            letGo(t, n);
            return finish(f, i, 0L);
        }

        // ---- classes begin

        /** A class begins, if it has not: DONE if frames came, FULL, or ON. */
        private int letBegin(int t, int c, int group) {
            int more = framesOf(c);
            if (thread[T_FRAMES][t] + more > FRAMES) {
                return FULL;
            }
            for (int d = c, n = 0; d >= 0 && n < CLASSES; d = p.cls[C_UP][d], n++) {
                if (heap.begun[d] == Heap.BEGUN) {
                    clocks.findBegun(t, d);
                }
            }
            int how = group;
            for (int d = c, n = 0; d >= 0 && n < CLASSES; d = p.cls[C_UP][d], n++) {
                if (heap.begun[d] != Heap.NOT_BEGUN) {
                    continue;
                }
                good = good && (!flow.done || flow.mayBegin(d));
                int m = p.cls[C_CLINIT][d];
                if (m < 0) {
                    heap.begun[d] = Heap.BEGUN;
                    fresh |= 1L << d;
                    clocks.endClass(t, d);
                    continue;
                }
                heap.begun[d] = t;
                int f = push(t, m, NONE, 0);
                frame[R_CLASS][f] = d;
                frame[R_GROUP][f] = how;
                how = ABOVE;
            }
            return more > 0 ? DONE : ON;
        }

        // ---- calls

        private int call(int t, int f, int i) {
            int became = plan[P_BEGIN] < 0 ? ON : letBegin(t, plan[P_BEGIN], LOWEST);
            if (became == ON && plan[P_THEN] >= 0) {
                became = letBegin(t, plan[P_THEN], LOWEST);
            }
            if (became != ON) {
                return became;
            }
            if (plan[P_RAISE] >= 0) {
                return RAISES;
            }
            if (plan[P_METHOD] >= 0) {
                return enter(t, f, i);
            }
            if (plan[P_NATIVE] == WAIT) {
                fallAsleep(t, plan[P_RECEIVER]);
                return finish(f, i, 0L);
            }
            if (plan[P_NATIVE] != START) {
                return callNative(t, f, i);
            }
            if (threads >= THREADS) {
                return FULL;
            }
            clocks.fork(t, threads);
            startThread(plan[P_RECEIVER], i, nodeOf(f, i));
            return finish(f, i, 0L);
        }

        /** A frame comes for the method that the call came to. */
        private int enter(int t, int f, int i) {
            int m = plan[P_METHOD];
            int receiver = plan[P_RECEIVER];
            int lambda = plan[P_LAMBDA];
            boolean made = plan[P_NATIVE] == NEW_INSTANCE;
            boolean locks = p.hasFlag(m, SYNCHRONIZED);
            boolean lockless = locks && p.hasFlag(m, STATIC) && lockOf(m, BAD) < 0;
            if (thread[T_FRAMES][t] >= FRAMES || heap.isFull((made ? 1 : 0) + (lockless ? 1 : 0))) {
                return FULL;
            }
            if (made) {
                receiver = heap.make(plan[P_WHAT], contextIn(f));
            }
            boolean fixed = p.hasFlag(m, STATIC);
            int site = fixed ? BAD : heap.thing[Heap.H_SITE][receiver];
            int g = push(t, m, flow.done ? flow.contextFor(i, site, frame[R_CONTEXT][f]) : NONE, CALLED);
            int q = 0;
            if (!fixed) {
                put(g, q++, Heap.reference(receiver));
            }
            int has = lambda < 0 ? 0 : p.takes(heap.thing[Heap.H_SITE][lambda]);
            for (int k = 0; k < has; k++) {
                put(g, q++, heap.slots[lambda * FIELDS + k]);
            }
            for (int k = 0; k < p.mth[M_PARAMS][m] - has; k++) {
                put(g, q++, valueAt(f, plan[P_VALUES] + k));
            }
            frame[R_HEIGHT][f] -= p.takes(i);
            frame[R_NATIVE][g] = plan[P_NATIVE];
            frame[R_THING][g] = made ? receiver : BAD;
            if (locks) {
                int n = fixed ? heap.knownOrMade(CLASS_SITES + p.mth[M_CLASS][m]) : receiver;
                take(t, n);
                frame[R_LOCK][g] = n;
                frame[R_LOCKS][g] = 0;
            }
            return DONE;
        }

        private int nodeOf(int f, int i) {
            return flow.done && frame[R_INSTANCE][f] >= 0 ? flow.nodeOf(frame[R_INSTANCE][f], i) : BAD;
        }

        private int callNative(int t, int f, int i) {
            int n = plan[P_RECEIVER];
            int v = (int) valueAt(f, plan[P_VALUES]);
            switch (plan[P_NATIVE]) {
                case NOTIFY:
                case NOTIFY_ALL:
                    tell(n, plan[P_NATIVE] == NOTIFY);
                    break;
                case NAMED:
                case FIND:
                    int told = heap.knownOrMade(plan[P_WHAT]);
                    return told < 0 ? FULL : finish(f, i, Heap.reference(told));
                case JOIN:
                    if (heap.thing[Heap.H_THREAD][n] >= 0) {
                        clocks.behind(t, heap.thing[Heap.H_THREAD][n]);
                    }
                    break;
                case HOOK:
                    heap.note(v, i, nodeOf(f, i));
                    break;
                default:
                    if (heap.saids < SAID) {
                        heap.said[heap.saids++] = v;
                    }
                    break;
            }
            return finish(f, i, 0L);
        }

        private void fallAsleep(int t, int n) {
            thread[T_COUNT][t] = heap.thing[Heap.H_ENTERED][n];
            thread[T_MODE][t] = SLEEPS;
            thread[T_AT][t] = n;
            thread[T_SINCE][t] = naps++;
            heap.thing[Heap.H_ENTERED][n] = 1;
            letGo(t, n);
        }

        /** The one that sleeps longest at a thing is told, or all are. */
        private void tell(int n, boolean one) {
            int first = BAD;
            for (int u = 0; u < threads; u++) {
                if (thread[T_MODE][u] != SLEEPS || thread[T_AT][u] != n) {
                    continue;
                }
                if (!one) {
                    thread[T_MODE][u] = TOLD;
                } else if (first < 0 || thread[T_SINCE][u] < thread[T_SINCE][first]) {
                    first = u;
                }
            }
            if (first >= 0) {
                thread[T_MODE][first] = TOLD;
            }
        }

        private void startThread(int n, int i, int node) {
            int u = threads++;
            fillThread(u, n, i, node);
            heap.thing[Heap.H_THREAD][n] = u;
            if (!pushStarted(u, RUN)) {
                thread[T_MODE][u] = ENDED;
                return;
            }
            thread[T_RUN][u] = 1;
        }

        /** The frame of run or uncaught comes, if one is selected. */
        private boolean pushStarted(int u, int method) {
            int n = thread[T_THING][u];
            int m = p.select(heap.thing[Heap.H_TYPE][n], p.mth[M_SIGN][method]);
            if (m < 0) {
                return false;
            }
            int site = heap.thing[Heap.H_SITE][n];
            int context = flow.done ? flow.contextFor(thread[T_CODE][u], site, NONE) : NONE;
            int f = push(u, m, context, STARTED);
            put(f, 0, Heap.reference(n));
            return true;
        }

        /** When all threads are ended, what was noted begins. */
        private void beginHooked() {
            int more = 0;
            for (int k = 0; k < heap.notes; k++) {
                more += heap.thing[Heap.H_THREAD][heap.noted[k * 3]] < 0 ? 1 : 0;
            }
            for (int t = 0; t < threads; t++) {
                if (thread[T_MODE][t] != ENDED) {
                    return;
                }
            }
            if (threads + more > THREADS) {
                over = true;
                return;
            }
            int were = threads;
            for (int k = 0; k < heap.notes; k++) {
                if (heap.thing[Heap.H_THREAD][heap.noted[k * 3]] < 0) {
                    clocks.fork(0, threads);
                    for (int t = 1; t < were; t++) {
                        clocks.behind(threads, t);
                    }
                    startThread(heap.noted[k * 3], heap.noted[k * 3 + 1], heap.noted[k * 3 + 2]);
                }
            }
            heap.notes = 0;
        }

        // ---- frames go

        private int leave(int t, int f, int i, int op) {
            long v = op == GIVE ? valueAt(f, baseOf(f, i)) : Heap.NO_THING;
            int m = frame[R_METHOD][f];
            drop(t);
            if (thread[T_FRAMES][t] == 0 || frame[R_CLASS][f] >= 0) {
                return DONE;
            }
            int g = top(t);
            int h = frame[R_HEIGHT][g];
            boolean reference = p.isReference(p.mth[M_TYPE][m]);
            boolean pushes = true;
            if (frame[R_NATIVE][f] == NEW_INSTANCE) {
                v = Heap.reference(frame[R_THING][f]);
            } else if (frame[R_NATIVE][f] == INVOKE) {
                v = reference ? v : Heap.NO_THING;
            } else {
                pushes = op == GIVE;
            }
            if (pushes) {
                put(g, LOCALS + h, v);
                frame[R_HEIGHT][g] = h + 1;
            }
            frame[R_CODE][g]++;
            return DONE;
        }

        /** The topmost frame goes: its monitors are let go; a class whose clinit it was has begun. */
        private void drop(int t) {
            int f = top(t);
            for (int k = frame[R_ENTERED][f] - 1; k >= 0; k--) {
                letGo(t, entered[f * ROW + k]);
            }
            if (frame[R_LOCK][f] >= 0) {
                letGo(t, frame[R_LOCK][f]);
            }
            int c = frame[R_CLASS][f];
            if (c >= 0) {
                heap.begun[c] = Heap.BEGUN;
                clocks.endClass(t, c);
            }
            thread[T_FRAMES][t]--;
        }

        private void unwind(int t, int x) {
            for (int turn = 0; turn <= FRAMES && thread[T_FRAMES][t] > 0; turn++) {
                int f = top(t);
                int c = p.catchFor(frame[R_CODE][f], heap.thing[Heap.H_TYPE][x]);
                if (c >= 0) {
                    frame[R_CODE][f] = p.trap[T_HANDLER][c];
                    frame[R_HEIGHT][f] = 1;
                    put(f, LOCALS, Heap.reference(x));
                    return;
                }
                int group = frame[R_GROUP][f];
                drop(t);
                for (int n = 0; n < CLASSES && group == ABOVE && thread[T_FRAMES][t] > 0; n++) {
                    group = frame[R_GROUP][top(t)];
                    drop(t);
                }
                if (group == FIRST && thread[T_FRAMES][t] > 0) {
                    drop(t);
                }
            }
            if (thread[T_RUN][t] != 0) {
                thread[T_RUN][t] = 0;
                if (pushStarted(t, UNCAUGHT)) {
                    put(top(t), 1, Heap.reference(x));
                }
            }
        }

        // ---- what was foreseen

        /** All that stands in the topmost frame of a thread is to be foreseen, and how it came there. */
        private void foresee(int t) {
            if (!flow.done || thread[T_FRAMES][t] == 0) {
                return;
            }
            int f = top(t);
            if (frame[R_INSTANCE][f] == UNSEEN) {
                foreseeCall(t, f);
            }
            int k = frame[R_INSTANCE][f];
            if (k < 0) {
                good = false;
                return;
            }
            int node = flow.nodeOf(k, frame[R_CODE][f]);
            for (int q = 0; q < LOCALS + frame[R_HEIGHT][f]; q++) {
                long v = valueAt(f, q);
                int o = Heap.isReference(v) && (int) v >= 0 ? objectOf((int) v) : OBJECTS;
                good = good && o >= 0 && (o == OBJECTS || flow.holdsObject(node, q, o));
            }
        }

        private void foreseeCall(int t, int f) {
            int k = flow.findInstance(frame[R_METHOD][f], frame[R_CONTEXT][f]);
            frame[R_INSTANCE][f] = k;
            int from = frame[R_FROM][f];
            if (k < 0 || from == 0) {
                return;
            }
            int node = from == STARTED ? thread[T_NODE][t] : nodeOf(f - 1, frame[R_CODE][f - 1]);
            int at = from == STARTED ? Flow.startsAt(node) : Flow.callsAt(node);
            good = good && node >= 0 && hasBit(flow.leads, at, k);
        }

        // ---- deadlocks

        private void findRings() {
            if (threads < 2) {
                return;
            }
            int blocked = 0;
            for (int u = 0; u < threads; u++) {
                boolean waits = waitOf(u) == BLOCKED;
                thread[T_WANT][u] = plan[P_AT];
                thread[T_NEXT][u] = waits ? heap.thing[Heap.H_OWNER][plan[P_AT]] : BAD;
                blocked += waits ? 1 : 0;
            }
            for (int u = 0; u < threads && blocked > 1; u++) {
                int v = thread[T_NEXT][u];
                for (int n = 0; n < threads && v > u; n++) {
                    v = thread[T_NEXT][v];
                }
                if (v == u && (ringed >> u & 1) == 0) {
                    rings++;
                    foreseeRing(u);
                }
            }
        }

        private void foreseeRing(int u) {
            int v = u;
            for (int n = 0; n < threads; n++) {
                int next = thread[T_NEXT][v];
                ringed |= 1 << next;
                if (flow.done) {
                    int held = objectOf(thread[T_WANT][v]);
                    int wanted = objectOf(thread[T_WANT][next]);
                    good = good && monitors.isKnot(wantingCode(next), held, wanted);
                }
                v = next;
                if (v == u) {
                    return;
                }
            }
        }

        /** The instruction by which a thread wants a monitor: of one that was told the wait behind which it stands. */
        private int wantingCode(int t) {
            return frame[R_CODE][top(t)] - (thread[T_MODE][t] == TOLD ? 1 : 0);
        }

        // ---- what is told

        /** The thread that is that far, modulo how many there are, among those that can go on; BAD: none can. */
        int ready(int far) {
            int n = 0;
            for (int t = 0; t < threads; t++) {
                n += waitOf(t) == GOES ? 1 : 0;
            }
            if (over || n == 0) {
                return BAD;
            }
            int left = far % n;
            for (int t = 0; t < threads; t++) {
                if (waitOf(t) == GOES && left-- == 0) {
                    return t;
                }
            }
            return BAD;
        }

        int total(int what) {
            switch (what) {
                case 17: return steps;
                case 18: return heap.things;
                case 19: return threads;
                case 20: return heap.saids;
                case 21: return clocks.total;
                case 22: return rings;
                case 23: return heap.begunCount();
                default: return over ? 1 : 0;
            }
        }

        int tellThread(int t, int what) {
            int wait = waitOf(t);
            boolean at = wait == BLOCKED || wait == SLEEPS;
            boolean frames = thread[T_FRAMES][t] > 0;
            switch (what) {
                case 0: return wait;
                case 1: return thread[T_FRAMES][t];
                case 2: return frames ? frame[R_CODE][top(t)] : BAD;
                case 3: return frames ? frame[R_METHOD][top(t)] : BAD;
                case 4: return at ? plan[P_AT] : BAD;
                default: return BAD;
            }
        }

        int tellPlace(int t, int place) {
            if (thread[T_FRAMES][t] == 0) {
                return BAD;
            }
            int f = top(t);
            return place < 0 || place >= LOCALS + frame[R_HEIGHT][f] ? BAD : (int) valueAt(f, place);
        }
    }
}
