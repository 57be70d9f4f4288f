import java.lang.reflect.Method;
import java.lang.reflect.Modifier;
import java.util.ArrayList;
import java.util.Arrays;
import java.util.Comparator;
import java.util.List;

/** What the boundary cases have in common; each case quotes the words of the document that it holds the class to. */
abstract class Cases {
    static final int NONE = -1;
    static final int MIN = Integer.MIN_VALUE;
    static final int MAX = Integer.MAX_VALUE;
    static final String INDEX = "IndexOutOfBoundsException";
    static final String ARGUMENT = "IllegalArgumentException";
    static final String STATE = "IllegalStateException";

    /** These stand for what is ahead of the promises and behind them, where a promise's number is asked for. */
    static final int TERMS = 0;
    static final int WHAT_IT_IS = Document.PROMISES + 1;
    static final int NOT_PROMISED = Document.PROMISES + 2;

    private static final int SLOTS = 2;
    private static final int SAVED = 11;
    private static final int REFUSED = 8;

    static final class Quote {
        final int promise;
        final String words;

        Quote(int promise, String words) {
            this.promise = promise;
            this.words = words;
        }

        String section() {
            switch (promise) {
                case TERMS: return "Terms";
                case WHAT_IT_IS: return "What it is";
                case NOT_PROMISED: return "Not promised";
                default: return "Promise " + promise;
            }
        }
    }

    interface Maker {
        TailBlocks make();
    }

    interface Call {
        long on(TailBlocks x);
    }

    interface CallWith {
        long on(TailBlocks x, int value);
    }

    static final List<Quote> quotes = new ArrayList<>();
    static int wrong = 0;
    static int checks = 0;

    private static Quote quote = new Quote(TERMS, "");

    /** Every method of the class without parameters that answers nothing is a case. */
    static void runAll(Class<?> cases) throws ReflectiveOperationException {
        Method[] methods = cases.getDeclaredMethods();
        Arrays.sort(methods, Comparator.comparing(Method::getName));
        for (Method m : methods) {
            boolean plain = !m.isSynthetic() && Modifier.isStatic(m.getModifiers());
            if (plain && m.getParameterCount() == 0 && m.getReturnType() == void.class) {
                m.invoke(null);
            }
        }
    }

    /** What follows holds the class to these words of that promise, or of what is ahead of them or behind them. */
    static void says(int promise, String words) {
        quote = new Quote(promise, words);
        quotes.add(quote);
    }

    private static void check(boolean right, String what, Object want, Object got) {
        checks++;
        if (!right) {
            wrong++;
            System.out.println(quote.section() + " says '" + quote.words + "'; " + what + ": due is " + want + ", got "
                + got);
        }
    }

    static void due(String what, long want, long got) {
        check(want == got, what, want, got);
    }

    static void dueShare(String what, double want, TailBlocks x) {
        check(want == x.usedShare(), what, want, x.usedShare());
    }

    static void dueFile(String what, TailBlocks x, int file, int... want) {
        for (int n = 0; n < want.length; n++) {
            due(what + ", fileOf(" + file + ", " + n + ")", want[n], x.fileOf(file, n));
        }
    }

    static void dueBlock(String what, TailBlocks x, int block, int... want) {
        for (int n = 0; n < want.length; n++) {
            due(what + ", blockOf(" + block + ", " + n + ")", want[n], x.blockOf(block, n));
        }
    }

    static void dueCounts(String what, TailBlocks x, int... want) {
        for (int n = 0; n < want.length; n++) {
            due(what + ", count(" + n + ")", want[n], x.count(n));
        }
    }

    private static void same(String what, List<Long> want, List<Long> got) {
        check(want.equals(got), what, want, got);
    }

    /** The call throws just this, and nothing at all is changed by it. */
    static void thrown(String what, String exception, Maker maker, Call call) {
        TailBlocks x = maker.make();
        String got;
        try {
            got = "the answer " + call.on(x);
        } catch (RuntimeException e) {
            got = e.getClass().getSimpleName();
        }
        check(exception.equals(got), what, exception, got);
        same(what + ", unchanged", everything(maker.make()), everything(x));
    }

    static void thrown(String what, String exception, Maker maker, CallWith call, int... values) {
        for (int value : values) {
            thrown(what + " " + value, exception, maker, x -> call.on(x, value));
        }
    }

    /** The call answers NONE, is counted so often, saves the state, changes nothing else; fewer than 6 are saved. */
    static void refused(String what, int counted, Maker maker, Call call) {
        TailBlocks x = maker.make();
        int refused = x.count(REFUSED);
        int saved = x.count(SAVED);
        due(what, NONE, call.on(x));
        due(what + ", counted as refused", refused + counted, x.count(REFUSED));
        due(what + ", a state is saved", saved + 1, x.count(SAVED));
        same(what + ", unchanged", looks(maker.make()), looks(x));
        due(what + ", states left by undo", saved, x.undo());
        same(what + ", undone", everything(maker.make()), everything(x));
    }

    /** The call has this answer, saves the state from before it, and is taken back by undo; fewer than 6 are saved. */
    static void undoable(String what, long want, Maker maker, Call call) {
        TailBlocks x = maker.make();
        int saved = x.count(SAVED);
        due(what, want, call.on(x));
        due(what + ", a state is saved", saved + 1, x.count(SAVED));
        due(what + ", states left by undo", saved, x.undo());
        same(what + ", undone", everything(maker.make()), everything(x));
    }

    /** The call has this answer and changes nothing at all. */
    static void unchanged(String what, long want, Maker maker, Call call) {
        TailBlocks x = maker.make();
        due(what, want, call.on(x));
        same(what + ", unchanged", everything(maker.make()), everything(x));
    }

    /** All that can be found out, with the saved states and the slots; the object is used up by that. */
    private static List<Long> everything(TailBlocks x) {
        List<Long> told = state(x);
        while (x.count(SAVED) > 0) {
            x.undo();
            told.addAll(state(x));
        }
        for (int slot = 0; slot < SLOTS; slot++) {
            try {
                x.goBack(slot);
                told.addAll(state(x));
            } catch (IllegalStateException e) {
                told.add((long) MIN);
            }
        }
        told.add((long) x.clearBuffer());
        return told;
    }

    private static List<Long> state(TailBlocks x) {
        List<Long> told = new ArrayList<>();
        told.add(x.digest());
        for (int file = 0; file < 10; file++) {
            addPlaces(told, x, file);
        }
        return told;
    }

    /** All but what is refused and what is saved. */
    private static List<Long> looks(TailBlocks x) {
        List<Long> told = new ArrayList<>();
        for (int what = 0; what < SAVED; what++) {
            told.add(what == REFUSED ? 0L : x.count(what));
        }
        for (int file = 0; file < 10; file++) {
            if (addPlaces(told, x, file)) {
                for (int what = 1; what < 7; what++) {
                    told.add((long) x.fileOf(file, what));
                }
            }
        }
        for (int block = 0; block < 24; block++) {
            for (int what = 0; what < 5; what++) {
                told.add((long) x.blockOf(block, what));
            }
        }
        return told;
    }

    /** The first cell of each whole block and of the tail tells where all of a file is; answers if there is one. */
    private static boolean addPlaces(List<Long> told, TailBlocks x, int file) {
        int size = sizeOf(x, file);
        told.add((long) size);
        for (int cell = 0; cell < size; cell += 16) {
            told.add((long) x.place(file, cell));
        }
        return size != NONE;
    }

    /** NONE if there is no such file. */
    static int sizeOf(TailBlocks x, int file) {
        try {
            return x.fileOf(file, 0);
        } catch (IndexOutOfBoundsException e) {
            return NONE;
        }
    }

    // ---- disks to begin with

    static void type(TailBlocks x, String text) {
        for (int at = 0; at < text.length(); at++) {
            x.append(text.charAt(at));
        }
    }

    static TailBlocks typed(String text) {
        TailBlocks x = new TailBlocks();
        type(x, text);
        return x;
    }

    /** A disk on which all of these orders were done, with one saved state. */
    static TailBlocks ran(String orders) {
        TailBlocks x = typed(orders);
        due("orders done of " + orders, orders.split(";").length, x.run());
        return x;
    }

    static TailBlocks spoilt(String orders, int... blocks) {
        TailBlocks x = ran(orders);
        for (int block : blocks) {
            x.spoil(block);
        }
        return x;
    }

    static TailBlocks with(int... sizes) {
        TailBlocks x = new TailBlocks();
        for (int size : sizes) {
            x.create(size);
        }
        return x;
    }

    static TailBlocks tenFiles() {
        return ran("+0;+0;+0;+0;+0;+0;+0;+0;+0;+0");
    }

    /** Something of all: files 0, 1, 2 (broken), 4 and 5; block 2 bad; 6 saved states, both slots, a text begun. */
    static TailBlocks busy() {
        TailBlocks x = ran("+20;+5;+40;+3;+0");
        x.keep(0);
        x.spoil(2);
        x.grow(3, 200);
        x.set(1);
        x.pack();
        x.keep(1);
        x.create(17);
        x.delete(3);
        type(x, "+1;>0");
        return x;
    }
}
