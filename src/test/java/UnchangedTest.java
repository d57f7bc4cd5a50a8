import java.util.ArrayList;
import java.util.LinkedHashMap;
import java.util.List;
import java.util.Map;
import java.util.function.Supplier;

/**
 * A call that is refused, and a call that only asks, changes nothing: in many states of an office all
 * that can be asked is as it was, and what is done then goes on as if the call had not been made.
 */
public final class UnchangedTest {
    private record Named(String name, Seen.Call call) {
    }

    private static final int[] FAR_OUT = {Integer.MIN_VALUE, Integer.MIN_VALUE + 1, -1000, -2, -1, 1000,
        Integer.MAX_VALUE - 1, Integer.MAX_VALUE};

    private static final int[][] NO_ROWS = {{-1, 0, -1, -1}, {10, 0, -1, -1}, {0, -1, -1, -1}, {0, 10, -1, -1},
        {0, 0, -2, -1}, {0, 0, 10, -1}, {0, 0, -1, 0}, {0, 0, -1, 9}, {0, 0, -1, -2}, {0, 0, 0, -2}, {0, 0, 0, 10},
        {Integer.MIN_VALUE, 0, 0, 0}, {0, Integer.MAX_VALUE, 0, 0}, {0, 0, Integer.MIN_VALUE, 0},
        {0, 0, 0, Integer.MAX_VALUE}};

    private static final Dues DUES = new Dues();

    private static TelegraphDesk codesAlone() {
        TelegraphDesk desk = new TelegraphDesk();
        Desks.add(desk, 0, 1);
        Desks.add(desk, 0, 1, 2);
        Desks.add(desk, 0, 1, 2, 3);
        return desk;
    }

    private static TelegraphDesk midway(int quality) {
        TelegraphDesk desk = codesAlone();
        desk.setQuality(quality);
        Desks.write(desk, 5, 6, 7, 0, 1);
        desk.send();
        Desks.write(desk, 0, 1, 2, 3, 8, 0, 1, 2, 9, 0, 1);
        return desk;
    }

    private static TelegraphDesk oneLeft() {
        TelegraphDesk desk = Desks.full();
        desk.setQuality(1);
        desk.strike();
        desk.dropCode(0);
        return desk;
    }

    private static TelegraphDesk sent() {
        TelegraphDesk desk = Desks.full();
        desk.setQuality(2);
        desk.send();
        return desk;
    }

    private static TelegraphDesk cleared() {
        TelegraphDesk desk = midway(9);
        desk.clear();
        desk.dropCode(1);
        return desk;
    }

    private static Map<String, Supplier<TelegraphDesk>> states() {
        Map<String, Supplier<TelegraphDesk>> states = new LinkedHashMap<>();
        states.put("new", TelegraphDesk::new);
        states.put("one word", () -> Desks.withWords(9));
        states.put("codes alone", UnchangedTest::codesAlone);
        states.put("24 words, no codes", () -> Desks.withWords(new int[24]));
        states.put("midway, quality 1", () -> midway(1));
        states.put("midway, quality 7", () -> midway(7));
        states.put("full", Desks::full);
        states.put("one left", UnchangedTest::oneLeft);
        states.put("sent", UnchangedTest::sent);
        states.put("cleared", UnchangedTest::cleared);
        return states;
    }

    private static void addNumbers(List<Named> calls, String name, int size, Seen.NumberCall call) {
        List<Integer> numbers = new ArrayList<>(List.of(size, size + 1));
        for (int number : FAR_OUT) {
            numbers.add(number);
        }
        for (int number : numbers) {
            calls.add(new Named(name + "(" + number + ")", desk -> call.answer(desk, number)));
        }
    }

    /** The calls that ask for a number that is not there, in an office such as this one. */
    private static List<Named> outOfBounds(TelegraphDesk desk) {
        List<Named> calls = new ArrayList<>();
        addNumbers(calls, "dropCode", desk.codes(), TelegraphDesk::dropCode);
        addNumbers(calls, "lengthOf", desk.codes(), TelegraphDesk::lengthOf);
        addNumbers(calls, "usesOf", desk.codes(), TelegraphDesk::usesOf);
        addNumbers(calls, "typeOf", desk.words(), TelegraphDesk::typeOf);
        addNumbers(calls, "codeOf", desk.groups(), TelegraphDesk::codeOf);
        addNumbers(calls, "startOf", desk.groups(), TelegraphDesk::startOf);
        return calls;
    }

    /** The calls that are wrong in each office. */
    private static List<Named> wrongArguments() {
        List<Named> calls = new ArrayList<>();
        addNumbers(calls, "write", 10, TelegraphDesk::write);
        addNumbers(calls, "setQuality", 10, TelegraphDesk::setQuality);
        addNumbers(calls, "bestNewCode", 5, TelegraphDesk::bestNewCode);
        calls.add(new Named("setQuality(0)", desk -> desk.setQuality(0)));
        calls.add(new Named("bestNewCode(0)", desk -> desk.bestNewCode(0)));
        calls.add(new Named("bestNewCode(1)", desk -> desk.bestNewCode(1)));
        for (int[] row : NO_ROWS) {
            calls.add(new Named("addCode" + List.of(row[0], row[1], row[2], row[3]),
                    desk -> desk.addCode(row[0], row[1], row[2], row[3])));
        }
        return calls;
    }

    /** The calls that an office such as this one can't do now. */
    private static List<Named> wrongState(TelegraphDesk desk) {
        List<Named> calls = new ArrayList<>();
        if (desk.words() == 24) {
            calls.add(new Named("write(0)", d -> d.write(0)));
            calls.add(new Named("write(9)", d -> d.write(9)));
        }
        if (desk.words() == 0) {
            calls.add(new Named("strike()", TelegraphDesk::strike));
            calls.add(new Named("send()", TelegraphDesk::send));
        }
        if (desk.codes() == 8) {
            calls.add(new Named("addCode(9, 9, 9, 9)", d -> d.addCode(9, 9, 9, 9)));
            calls.add(new Named("addCode(9, 8, -1, -1)", d -> d.addCode(9, 8, -1, -1)));
            calls.add(new Named("addCode(7, 7, -1, -1)", d -> d.addCode(7, 7, -1, -1)));
        }
        if (desk.codes() == 3) {
            calls.add(new Named("addCode(0, 1, -1, -1)", d -> d.addCode(0, 1, -1, -1)));
            calls.add(new Named("addCode(0, 1, 2, -1)", d -> d.addCode(0, 1, 2, -1)));
            calls.add(new Named("addCode(0, 1, 2, 3)", d -> d.addCode(0, 1, 2, 3)));
        }
        return calls;
    }

    private static List<Named> asking() {
        return List.of(new Named("codes()", TelegraphDesk::codes), new Named("words()", TelegraphDesk::words),
                new Named("groups()", TelegraphDesk::groups), new Named("counted()", TelegraphDesk::counted),
                new Named("cost()", TelegraphDesk::cost), new Named("saved()", TelegraphDesk::saved),
                new Named("sentGroups()", TelegraphDesk::sentGroups), new Named("repeats()", TelegraphDesk::repeats),
                new Named("lost()", TelegraphDesk::lost), new Named("earned()", TelegraphDesk::earned),
                new Named("untilGarbled()", TelegraphDesk::untilGarbled),
                new Named("wouldBeGarbled()", TelegraphDesk::wouldBeGarbled),
                new Named("repeatsIfSent()", TelegraphDesk::repeatsIfSent),
                new Named("qualityWanted()", TelegraphDesk::qualityWanted),
                new Named("uselessCode()", TelegraphDesk::uselessCode),
                new Named("bestNewCode(2)", desk -> desk.bestNewCode(2)),
                new Named("bestNewCode(3)", desk -> desk.bestNewCode(3)),
                new Named("bestNewCode(4)", desk -> desk.bestNewCode(4)),
                new Named("meanLength()", TelegraphDesk::meanLength), new Named("digest()", TelegraphDesk::digest),
                new Named("lengthOf(0)", desk -> desk.lengthOf(0)), new Named("usesOf(0)", desk -> desk.usesOf(0)),
                new Named("typeOf(0)", desk -> desk.typeOf(0)), new Named("codeOf(0)", desk -> desk.codeOf(0)),
                new Named("startOf(0)", desk -> desk.startOf(0)));
    }

    /** Calls that change an office in each way, with what they answer. */
    private static String goneOn(TelegraphDesk desk) {
        List<Seen.Call> calls = List.of(d -> d.write(3), d -> d.addCode(3, 3, -1, -1), d -> d.write(3), d -> d.send(),
                d -> d.setQuality(2), d -> d.write(9), d -> d.write(9), d -> d.write(0), d -> d.addCode(9, 9, 0, -1),
                d -> d.strike(), d -> d.send(), d -> d.dropCode(0), d -> d.write(0), d -> d.write(1), d -> d.write(2),
                d -> d.clear(), d -> d.setQuality(1), d -> d.write(4), d -> d.send(), d -> d.write(0), d -> d.write(1),
                d -> d.write(2), d -> d.write(3), d -> d.write(3));
        StringBuilder text = new StringBuilder();
        for (Seen.Call call : calls) {
            text.append(Seen.said(desk, call)).append(' ');
        }
        return text.append(Seen.all(desk)).toString();
    }

    private static void dueRefused(String state, Supplier<TelegraphDesk> making, Class<?> want, List<Named> calls) {
        String goneOn = goneOn(making.get());
        for (Named call : calls) {
            DUES.refused(state + ": " + call.name(), making, want, call.call());
            TelegraphDesk desk = making.get();
            Seen.said(desk, call.call());
            DUES.due(state + ": what goes on behind " + call.name(), goneOn(desk), goneOn);
        }
    }

    private static void dueAsked(String state, Supplier<TelegraphDesk> making) {
        String all = Seen.all(making.get());
        String goneOn = goneOn(making.get());
        for (Named call : asking()) {
            TelegraphDesk desk = making.get();
            String answer = Seen.said(desk, call.call());
            DUES.due(state + ": " + call.name() + " again", Seen.said(desk, call.call()), answer);
            DUES.due(state + ": all behind " + call.name(), Seen.all(desk), all);
            DUES.due(state + ": what goes on behind " + call.name(), goneOn(desk), goneOn);
        }
        // What one call asks for may not show in what another one answers.
        for (Named first : asking()) {
            for (Named second : asking()) {
                TelegraphDesk desk = making.get();
                Seen.said(desk, first.call());
                DUES.due(state + ": " + second.name() + " behind " + first.name(), Seen.said(desk, second.call()),
                        Seen.said(making.get(), second.call()));
            }
        }
    }

    public static void main(String[] args) {
        DUES.sentence("A method that throws an exception changes nothing.");
        states().forEach((state, making) -> {
            dueRefused(state, making, Dues.INDEX, outOfBounds(making.get()));
            dueRefused(state, making, Dues.ARGUMENT, wrongArguments());
            dueRefused(state, making, Dues.STATE, wrongState(making.get()));
        });
        DUES.sentence("(nothing is changed)");
        states().forEach(UnchangedTest::dueAsked);
        DUES.end();
    }
}
