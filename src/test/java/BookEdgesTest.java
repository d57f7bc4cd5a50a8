import java.util.Arrays;
import java.util.function.Supplier;

/** The edges of the code book and of the message (promises 1 to 10), each sentence by a test of its own. */
public final class BookEdgesTest {
    private static final Dues DUES = new Dues();

    /** Codes of 2, 3 and 4 words, a message that uses two of them, a line that is no longer new. */
    private static TelegraphDesk midway() {
        TelegraphDesk desk = Desks.withWords(5, 6, 7);
        desk.setQuality(2);
        desk.send();
        Desks.add(desk, 1, 2);
        Desks.add(desk, 1, 2, 3);
        Desks.add(desk, 4, 5, 6, 7);
        Desks.write(desk, 1, 2, 8, 4, 5, 6, 7, 9);
        return desk;
    }

    private static void newObject() {
        TelegraphDesk desk = new TelegraphDesk();
        DUES.due("codes()", desk.codes(), 0);
        DUES.due("words()", desk.words(), 0);
        DUES.due("groups()", desk.groups(), 0);
        DUES.due("counted()", desk.counted(), 0);
        DUES.due("cost()", desk.cost(), 0);
        DUES.due("saved()", desk.saved(), 0);
        DUES.due("sentGroups()", desk.sentGroups(), 0);
        DUES.due("repeats()", desk.repeats(), 0);
        DUES.due("lost()", desk.lost(), 0);
        DUES.due("earned()", desk.earned(), 0);
        DUES.due("untilGarbled()", desk.untilGarbled(), 1);
        DUES.due("wouldBeGarbled()", desk.wouldBeGarbled(), 0);
        DUES.due("repeatsIfSent()", desk.repeatsIfSent(), 0);
        DUES.due("qualityWanted()", desk.qualityWanted(), 1);
        DUES.due("uselessCode()", desk.uselessCode(), -1);
        for (int length = 2; length <= 4; length++) {
            DUES.due("bestNewCode(" + length + ")", desk.bestNewCode(length), -1);
        }
        DUES.due("meanLength()", desk.meanLength(), 0.0);
        DUES.due("setQuality(9), the quality at first", desk.setQuality(9), 7);
    }

    private static void objectsOfTheirOwn() {
        TelegraphDesk untouched = new TelegraphDesk();
        String before = Seen.all(untouched);
        TelegraphDesk other = Desks.full();
        other.setQuality(1);
        other.send();
        DUES.due("all of another object", Seen.all(untouched), before);
        DUES.due("all of an object made later", Seen.all(new TelegraphDesk()), before);
    }

    private static boolean isRow(int first, int second, int third, int fourth) {
        return first >= 0 && first <= 9 && second >= 0 && second <= 9
                && third >= -1 && third <= 9 && fourth >= -1 && fourth <= 9
                && (third >= 0 || fourth == -1);
    }

    private static void eachRow(int first, int second, int third, int fourth) {
        TelegraphDesk desk = new TelegraphDesk();
        String name = "addCode(" + first + ", " + second + ", " + third + ", " + fourth + ")";
        boolean isRow = isRow(first, second, third, fourth);
        DUES.due(name, Seen.said(desk, d -> d.addCode(first, second, third, fourth)),
                isRow ? "0" : Seen.thrown(Dues.ARGUMENT));
        DUES.due("codes() behind " + name, desk.codes(), isRow ? 1 : 0);
        if (isRow) {
            DUES.due("lengthOf(0) behind " + name, desk.lengthOf(0), third == -1 ? 2 : fourth == -1 ? 3 : 4);
        }
    }

    private static void eachRowAtTheEdges() {
        int[] types = {-2, -1, 0, 1, 8, 9, 10};
        for (int first : types) {
            for (int second : types) {
                for (int third : types) {
                    for (int fourth : types) {
                        eachRow(first, second, third, fourth);
                    }
                }
            }
        }
    }

    private static void refusedRow(int... row) {
        Seen.Call call = d -> d.addCode(row[0], row[1], row[2], row[3]);
        DUES.refused("addCode" + Arrays.toString(row), TelegraphDesk::new, Dues.ARGUMENT, call);
        DUES.refused("addCode" + Arrays.toString(row) + " midway", BookEdgesTest::midway, Dues.ARGUMENT, call);
    }

    private static void refusedType(String place, int least, Seen.NumberCall call) {
        DUES.refusedOutside("addCode, " + place, TelegraphDesk::new, Dues.ARGUMENT, least, 9, call);
        DUES.refusedOutside("addCode midway, " + place, BookEdgesTest::midway, Dues.ARGUMENT, least, 9, call);
    }

    private static void firstOrSecondIsNoType() {
        refusedType("first of two", 0, (d, type) -> d.addCode(type, 0, -1, -1));
        refusedType("second of two", 0, (d, type) -> d.addCode(0, type, -1, -1));
        refusedType("first of four", 0, (d, type) -> d.addCode(type, 9, 9, 9));
        refusedType("second of four", 0, (d, type) -> d.addCode(9, type, 9, 9));
    }

    private static void thirdOrFourthIsNoType() {
        refusedType("third of three", -1, (d, type) -> d.addCode(0, 0, type, -1));
        refusedType("third of four", -1, (d, type) -> d.addCode(9, 9, type, 9));
        refusedType("fourth of four", -1, (d, type) -> d.addCode(9, 9, 9, type));
        refusedType("fourth without third", -1, (d, type) -> d.addCode(0, 0, -1, type));
    }

    private static void thirdIsNoneAndFourthIsNot() {
        refusedRow(0, 0, -1, 0);
        refusedRow(9, 9, -1, 9);
        refusedRow(1, 2, -1, 3);
        DUES.due("addCode(0, 0, -1, -1)", new TelegraphDesk().addCode(0, 0, -1, -1), 0);
        DUES.due("addCode(0, 0, 0, -1)", new TelegraphDesk().addCode(0, 0, 0, -1), 0);
    }

    private static void atMostEight() {
        TelegraphDesk desk = new TelegraphDesk();
        for (int type = 0; type < 8; type++) {
            DUES.due("addCode, " + type + " are there", Desks.add(desk, type, type), type);
        }
        DUES.due("codes()", desk.codes(), 8);
        DUES.refused("a ninth code of 2", Desks::full, Dues.STATE, d -> d.addCode(9, 9, -1, -1));
        DUES.refused("a ninth code of 3", Desks::full, Dues.STATE, d -> d.addCode(9, 9, 9, -1));
        DUES.refused("a ninth code of 4", Desks::full, Dues.STATE, d -> d.addCode(9, 9, 9, 9));
        DUES.refused("a ninth code, a row that is there", Desks::full, Dues.STATE,
                d -> d.addCode(0, 0, -1, -1));
        desk.dropCode(3);
        DUES.due("addCode, 7 are there again", Desks.add(desk, 9, 9, 9), 7);
        DUES.due("lengthOf(7)", desk.lengthOf(7), 3);
    }

    private static void rowThatIsThere() {
        DUES.refused("the first one's row", BookEdgesTest::midway, Dues.STATE, d -> d.addCode(1, 2, -1, -1));
        DUES.refused("the second one's row", BookEdgesTest::midway, Dues.STATE, d -> d.addCode(1, 2, 3, -1));
        DUES.refused("the last one's row", BookEdgesTest::midway, Dues.STATE, d -> d.addCode(4, 5, 6, 7));
    }

    private static void rowsThatDiffer() {
        int[][] rows = {{1, 3}, {0, 2}, {2, 1}, {1, 2, 0}, {1, 2, 4}, {0, 2, 3}, {1, 0, 3}, {1, 2, 3, 0}, {1, 2, 3, 3},
            {4, 5}, {4, 5, 6}, {5, 6, 7}, {4, 5, 6, 8}, {4, 5, 7, 7}, {4, 6, 6, 7}, {5, 5, 6, 7}, {2, 3}, {7, 6, 5, 4}};
        for (int[] row : rows) {
            DUES.due("addCode of another row, " + Arrays.toString(row), Desks.add(midway(), row), 3);
        }
        TelegraphDesk desk = midway();
        desk.dropCode(0);
        DUES.due("addCode of a row that was dropped", desk.addCode(1, 2, -1, -1), 2);
        DUES.due("addCode of a row that is there", Seen.said(desk, d -> d.addCode(1, 2, 3, -1)),
                Seen.thrown(Dues.STATE));
    }

    private static void rowOfTheLastThatWasDropped() {
        TelegraphDesk desk = midway();
        desk.dropCode(2);
        DUES.due("addCode of the last row, dropped", desk.addCode(4, 5, 6, 7), 2);
        Desks.addPairs(desk, 5);
        DUES.due("codes()", desk.codes(), 8);
        desk.dropCode(7);
        DUES.due("addCode of the eighth row, dropped", desk.addCode(4, 4, -1, -1), 7);
    }

    private static void argumentGoesBeforeState() {
        int[][] rows = {{-1, 0, -1, -1}, {10, 0, -1, -1}, {0, -1, -1, -1}, {0, 10, -1, -1}, {0, 0, -2, -1},
            {0, 0, 10, -1}, {0, 0, 0, -2}, {0, 0, 0, 10}, {0, 0, -1, 0}};
        for (int[] row : rows) {
            DUES.refused("a wrong ninth code " + Arrays.toString(row), Desks::full, Dues.ARGUMENT,
                    d -> d.addCode(row[0], row[1], row[2], row[3]));
        }
        DUES.refused("the row 1 2 with a fourth one", BookEdgesTest::midway, Dues.ARGUMENT,
                d -> d.addCode(1, 2, -1, 2));
        DUES.refusedOutside("a wrong 25th word", Desks::full, Dues.ARGUMENT, 0, 9, TelegraphDesk::write);
    }

    private static void noSuchCode(String name, Seen.NumberCall call) {
        DUES.refusedIndexes(name, TelegraphDesk::new, 0, call);
        DUES.refusedIndexes(name, () -> Desks.withWords(1, 2, 3), 0, call);
        DUES.refusedIndexes(name, BookEdgesTest::midway, 3, call);
        DUES.refusedIndexes(name, Desks::full, 8, call);
    }

    private static void droppedOnesAreNotThere() {
        Supplier<TelegraphDesk> making = () -> {
            TelegraphDesk desk = Desks.full();
            desk.dropCode(0);
            return desk;
        };
        DUES.refusedIndexes("dropCode, one is dropped,", making, 7, TelegraphDesk::dropCode);
        DUES.refusedIndexes("lengthOf, one is dropped,", making, 7, TelegraphDesk::lengthOf);
        DUES.refusedIndexes("usesOf, one is dropped,", making, 7, TelegraphDesk::usesOf);
    }

    private static void dropReturnsLength() {
        for (int code = 0; code < 3; code++) {
            DUES.due("dropCode(" + code + ")", midway().dropCode(code), 2 + code);
        }
        TelegraphDesk desk = Desks.full();
        for (int left = 8; left > 0; left--) {
            DUES.due("codes()", desk.codes(), left);
            DUES.due("dropCode, the last of " + left, desk.dropCode(left - 1), 2);
        }
        DUES.due("codes() behind the last one", desk.codes(), 0);
        DUES.due("addCode again", desk.addCode(1, 2, 3, -1), 0);
    }

    /** 8 codes of the lengths 2 3 4 2 3 4 2 3, each of its own type; the message has the row of each one once. */
    private static TelegraphDesk eachUsedOnce() {
        TelegraphDesk desk = new TelegraphDesk();
        for (int type = 0; type < 8; type++) {
            int length = 2 + type % 3;
            desk.addCode(type, type, length > 2 ? type : -1, length > 3 ? type : -1);
        }
        for (int type = 0; type < 8; type++) {
            Desks.writeSame(desk, type, 2 + type % 3);
        }
        return desk;
    }

    private static void thoseBehindHaveOneLess() {
        for (int dropped = 0; dropped < 8; dropped++) {
            TelegraphDesk desk = eachUsedOnce();
            desk.dropCode(dropped);
            for (int code = 0; code < 7; code++) {
                int before = code < dropped ? code : code + 1;
                String name = "(" + code + ") without " + dropped;
                DUES.due("lengthOf" + name, desk.lengthOf(code), 2 + before % 3);
                DUES.due("usesOf" + name, desk.usesOf(code), 1);
                int group = code < dropped ? code : before - 1 + desk.groups() - 7;
                DUES.due("codeOf(" + group + ") without " + dropped, desk.codeOf(group), code);
            }
        }
    }

    private static void lengthOfEach() {
        TelegraphDesk desk = eachUsedOnce();
        for (int code = 0; code < 8; code++) {
            DUES.due("lengthOf(" + code + ")", desk.lengthOf(code), 2 + code % 3);
        }
        noSuchCode("lengthOf", TelegraphDesk::lengthOf);
    }

    private static void writeTypes() {
        for (int type = 0; type <= 9; type++) {
            TelegraphDesk desk = new TelegraphDesk();
            DUES.due("write(" + type + ")", desk.write(type), 1);
            DUES.due("typeOf(0)", desk.typeOf(0), type);
        }
        DUES.refusedOutside("write", TelegraphDesk::new, Dues.ARGUMENT, 0, 9, TelegraphDesk::write);
        DUES.refusedOutside("write midway", BookEdgesTest::midway, Dues.ARGUMENT, 0, 9, TelegraphDesk::write);
    }

    private static void atMostTwentyFour() {
        TelegraphDesk desk = new TelegraphDesk();
        for (int word = 0; word < 24; word++) {
            DUES.due("write, " + word + " are there", desk.write(word % 10), word + 1);
        }
        DUES.due("words()", desk.words(), 24);
        for (int type : new int[] {0, 9}) {
            DUES.refused("write(" + type + "), 24 are there", Desks::full, Dues.STATE, d -> d.write(type));
        }
        desk.strike();
        DUES.due("write, 23 are there again", desk.write(9), 24);
        DUES.due("typeOf(23)", desk.typeOf(23), 9);
        DUES.due("a 25th", Seen.said(desk, d -> d.write(9)), Seen.thrown(Dues.STATE));
        desk.send();
        DUES.due("write behind send()", desk.write(4), 1);
        desk.clear();
        DUES.due("write behind clear()", desk.write(4), 1);
    }

    private static void strikeToNone() {
        DUES.refused("strike() of a new one", TelegraphDesk::new, Dues.STATE, TelegraphDesk::strike);
        TelegraphDesk desk = Desks.full();
        for (int left = 23; left >= 0; left--) {
            DUES.due("strike()", desk.strike(), left / 2 % 10);
            DUES.due("words()", desk.words(), left);
        }
        DUES.due("strike() of none", Seen.said(desk, TelegraphDesk::strike), Seen.thrown(Dues.STATE));
        DUES.refused("strike() of none, midway", () -> {
            TelegraphDesk cleared = midway();
            cleared.clear();
            return cleared;
        }, Dues.STATE, TelegraphDesk::strike);
        DUES.refused("strike() of none, sent", () -> {
            TelegraphDesk sent = midway();
            sent.send();
            return sent;
        }, Dues.STATE, TelegraphDesk::strike);
    }

    private static void strikeMakesGroupsAnew() {
        TelegraphDesk desk = Desks.withWords(4, 5, 6, 7);
        Desks.add(desk, 4, 5, 6, 7);
        Desks.add(desk, 5, 6);
        DUES.groups("the whole row", desk, new int[] {0}, new int[] {0});
        desk.strike();
        DUES.groups("without its last word", desk, new int[] {-1, 1}, new int[] {0, 1});
        desk.write(7);
        DUES.groups("with it again", desk, new int[] {0}, new int[] {0});
    }

    private static void clearOfNoneOneAndAll() {
        TelegraphDesk none = new TelegraphDesk();
        String before = Seen.all(none);
        DUES.due("clear() of none", none.clear(), 0);
        DUES.due("all behind clear() of none", Seen.all(none), before);
        DUES.due("clear() of one", Desks.withWords(9).clear(), 1);
        TelegraphDesk desk = Desks.full();
        DUES.due("clear() of 24", desk.clear(), 24);
        TelegraphDesk codesAlone = new TelegraphDesk();
        Desks.addPairs(codesAlone, 8);
        DUES.due("all behind clear() of 24", Seen.all(desk), Seen.all(codesAlone));
        DUES.due("clear() again", desk.clear(), 0);
    }

    private static void clearLeavesTheLine() {
        TelegraphDesk cleared = midway();
        cleared.clear();
        TelegraphDesk written = midway();
        DUES.due("sentGroups()", cleared.sentGroups(), written.sentGroups());
        DUES.due("repeats()", cleared.repeats(), written.repeats());
        DUES.due("lost()", cleared.lost(), written.lost());
        DUES.due("earned()", cleared.earned(), 20);
        DUES.due("codes()", cleared.codes(), 3);
        DUES.due("the quality", cleared.setQuality(2), 2);
    }

    private static void noSuchWord() {
        TelegraphDesk desk = Desks.full();
        for (int word = 0; word < 24; word++) {
            DUES.due("typeOf(" + word + ")", desk.typeOf(word), word / 2 % 10);
        }
        DUES.refusedIndexes("typeOf", TelegraphDesk::new, 0, TelegraphDesk::typeOf);
        DUES.refusedIndexes("typeOf", () -> Desks.withWords(3), 1, TelegraphDesk::typeOf);
        DUES.refusedIndexes("typeOf", BookEdgesTest::midway, 8, TelegraphDesk::typeOf);
        DUES.refusedIndexes("typeOf", Desks::full, 24, TelegraphDesk::typeOf);
        DUES.refused("typeOf of a word that was taken out", () -> {
            TelegraphDesk struck = midway();
            struck.strike();
            return struck;
        }, Dues.INDEX, d -> d.typeOf(7));
        DUES.refused("typeOf of a word that was sent", () -> {
            TelegraphDesk sent = midway();
            sent.send();
            return sent;
        }, Dues.INDEX, d -> d.typeOf(0));
    }

    public static void main(String[] args) {
        DUES.sentence("Creates an office without codes, with an empty message.");
        newObject();
        objectsOfTheirOwn();
        DUES.sentence("each stands for a row of 2 to 4 words, by their types");
        eachRowAtTheEdges();
        DUES.sentence("if first or second is not 0 to 9");
        firstOrSecondIsNoType();
        DUES.sentence("third or fourth is neither -1 nor 0 to 9");
        thirdOrFourthIsNoType();
        DUES.sentence("or third is -1 and fourth is not");
        thirdIsNoneAndFourthIsNot();
        DUES.sentence("At most 8, numbered from 0; IllegalStateException if there are 8");
        atMostEight();
        DUES.sentence("or another one stands for these words");
        rowThatIsThere();
        DUES.sentence("No two stand for the same row.");
        rowsThatDiffer();
        rowOfTheLastThatWasDropped();
        DUES.sentence("If several exceptions apply, the one that is named first is thrown.");
        argumentGoesBeforeState();
        DUES.sentence("dropCode: IndexOutOfBoundsException if there is no such code");
        noSuchCode("dropCode", TelegraphDesk::dropCode);
        droppedOnesAreNotThere();
        DUES.sentence("dropCode: Returns for how many words it stood.");
        dropReturnsLength();
        DUES.sentence("those behind it have a number 1 less then");
        thoseBehindHaveOneLess();
        DUES.sentence("lengthOf: IndexOutOfBoundsException if there is no such code");
        lengthOfEach();
        DUES.sentence("write: IllegalArgumentException if type is not 0 to 9");
        writeTypes();
        DUES.sentence("write: IllegalStateException if there are 24");
        atMostTwentyFour();
        DUES.sentence("strike: IllegalStateException if there are none");
        strikeToNone();
        strikeMakesGroupsAnew();
        DUES.sentence("clear: Returns how many words it had.");
        clearOfNoneOneAndAll();
        clearLeavesTheLine();
        DUES.sentence("typeOf: IndexOutOfBoundsException if there is no such word");
        noSuchWord();
        DUES.end();
    }
}
