import java.util.function.Supplier;

/** What calls answered and what is due, sentence by sentence; no test itself, the tests use it. */
final class Dues {
    static final Class<?> ARGUMENT = IllegalArgumentException.class;
    static final Class<?> STATE = IllegalStateException.class;
    static final Class<?> INDEX = IndexOutOfBoundsException.class;

    /** Numbers far out of all bounds of the document. */
    private static final int[] FAR_OUT = {Integer.MIN_VALUE, Integer.MIN_VALUE + 1, -1000, 1000,
        Integer.MAX_VALUE - 1, Integer.MAX_VALUE};

    private static final int MOST_TOLD = 60;

    private String sentence = "";
    private int sentences = 0;
    private int wrong = 0;

    /** From now on the dues are those of this sentence of the document. */
    void sentence(String words) {
        sentence = words;
        sentences++;
    }

    void due(String call, Object got, Object want) {
        if (got.equals(want)) {
            return;
        }
        wrong++;
        if (wrong <= MOST_TOLD) {
            System.out.println("\"" + sentence + "\": " + call + " answered " + got + ", due is " + want);
        }
    }

    /** The call throws just this exception, and all that can be asked behind it is as it was. */
    void refused(String name, Supplier<TelegraphDesk> making, Class<?> want, Seen.Call call) {
        TelegraphDesk desk = making.get();
        String before = Seen.all(desk);
        due(name, Seen.said(desk, call), Seen.thrown(want));
        due("all that can be asked behind " + name, Seen.all(desk), before);
    }

    /** The call is refused for the numbers just outside first to last, and for those far out. */
    void refusedOutside(String name, Supplier<TelegraphDesk> making, Class<?> want, int first, int last,
            Seen.NumberCall call) {
        for (int number : new int[] {first - 2, first - 1, last + 1, last + 2}) {
            refused(name + "(" + number + ")", making, want, desk -> call.answer(desk, number));
        }
        for (int number : FAR_OUT) {
            refused(name + "(" + number + ")", making, want, desk -> call.answer(desk, number));
        }
    }

    /** The call is refused for the numbers that are not one of so many from 0 on. */
    void refusedIndexes(String name, Supplier<TelegraphDesk> making, int size, Seen.NumberCall call) {
        refusedOutside(name + " of " + size, making, INDEX, 0, size - 1, call);
    }

    void groups(String name, TelegraphDesk desk, int[] codes, int[] starts) {
        due(name + ": groups()", desk.groups(), codes.length);
        for (int group = 0; group < Math.min(codes.length, desk.groups()); group++) {
            due(name + ": codeOf(" + group + ")", desk.codeOf(group), codes[group]);
            due(name + ": startOf(" + group + ")", desk.startOf(group), starts[group]);
        }
    }

    /** Tells how it went, and ends with exit code 1 if an answer was not the due one. */
    void end() {
        if (wrong != 0) {
            System.out.println(wrong + " answers are not as due");
            System.exit(1);
        }
        System.out.println(sentences + " sentences hold");
    }
}
