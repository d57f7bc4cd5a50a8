/** For each promise of the document: ordinary inputs, the edges that it names, and wrong inputs. */
public final class PromisesTest {
    private static final int[] WRONG_NUMBERS = {
        Integer.MIN_VALUE, Integer.MIN_VALUE + 1, -1000, -2, -1, 1000, Integer.MAX_VALUE - 1, Integer.MAX_VALUE};

    private static final Class<?> ARGUMENT = Dues.ARGUMENT;
    private static final Class<?> STATE = Dues.STATE;
    private static final Class<?> INDEX = Dues.INDEX;

    private static final Dues DUES = new Dues();

    private static void due(String call, long got, long want) {
        DUES.due(call, got, want);
    }

    private static void dueMean(String call, double got, double want) {
        DUES.due(call, got, want);
    }

    private static void dueGroups(String call, TelegraphDesk desk, int[] codes, int[] starts) {
        DUES.groups(call, desk, codes, starts);
    }

    /** The call throws just this exception, and the checksum stays; UnchangedTest looks at all the rest. */
    private static void dueThrow(String call, TelegraphDesk desk, Class<?> want, Seen.Call made) {
        long before = desk.digest();
        DUES.due(call, Seen.said(desk, made), Seen.thrown(want));
        due("digest() behind " + call + " that throws", desk.digest(), before);
    }

    /** Sends as many messages of one word. */
    private static void sendSingles(TelegraphDesk desk, int times) {
        for (int i = 0; i < times; i++) {
            desk.write(0);
            desk.send();
        }
    }

    private static void newObject() {
        TelegraphDesk desk = new TelegraphDesk();
        due("new: codes()", desk.codes(), 0);
        due("new: words()", desk.words(), 0);
        due("new: groups()", desk.groups(), 0);
        due("new: counted()", desk.counted(), 0);
        due("new: cost()", desk.cost(), 0);
        due("new: saved()", desk.saved(), 0);
        due("new: sentGroups()", desk.sentGroups(), 0);
        due("new: repeats()", desk.repeats(), 0);
        due("new: lost()", desk.lost(), 0);
        due("new: earned()", desk.earned(), 0);
        due("new: setQuality(7)", desk.setQuality(7), 7);
        TelegraphDesk other = new TelegraphDesk();
        desk.write(1);
        desk.addCode(1, 1, -1, -1);
        due("another object: words()", other.words(), 0);
        due("another object: codes()", other.codes(), 0);
    }

    private static void addCode() {
        TelegraphDesk desk = new TelegraphDesk();
        due("addCode(0, 9, -1, -1)", desk.addCode(0, 9, -1, -1), 0);
        due("addCode(0, 9, 0, -1)", desk.addCode(0, 9, 0, -1), 1);
        due("addCode(0, 9, 0, 9)", desk.addCode(0, 9, 0, 9), 2);
        due("addCode(9, 0, -1, -1)", desk.addCode(9, 0, -1, -1), 3);
        due("lengthOf(0)", desk.lengthOf(0), 2);
        due("lengthOf(1)", desk.lengthOf(1), 3);
        due("lengthOf(2)", desk.lengthOf(2), 4);
        for (int type : new int[] {-2, -1, 10, 11, Integer.MIN_VALUE, Integer.MAX_VALUE}) {
            dueThrow("addCode(" + type + ", 0, -1, -1)", desk, ARGUMENT, asked -> asked.addCode(type, 0, -1, -1));
            dueThrow("addCode(0, " + type + ", -1, -1)", desk, ARGUMENT, asked -> asked.addCode(0, type, -1, -1));
            if (type != -1) {
                dueThrow("addCode(0, 0, " + type + ", -1)", desk, ARGUMENT, asked -> asked.addCode(0, 0, type, -1));
                dueThrow("addCode(0, 0, 0, " + type + ")", desk, ARGUMENT, asked -> asked.addCode(0, 0, 0, type));
            }
        }
        dueThrow("addCode(0, 0, -1, 0)", desk, ARGUMENT, asked -> asked.addCode(0, 0, -1, 0));
        dueThrow("addCode(0, 9, -1, -1) again", desk, STATE, asked -> asked.addCode(0, 9, -1, -1));
        dueThrow("addCode(0, 9, 0, -1) again", desk, STATE, asked -> asked.addCode(0, 9, 0, -1));
        dueThrow("addCode(0, 9, 0, 9) again", desk, STATE, asked -> asked.addCode(0, 9, 0, 9));
        dueThrow("addCode(0, 9, -1, 9)", desk, ARGUMENT, asked -> asked.addCode(0, 9, -1, 9));
        for (int type = 4; type < 8; type++) {
            due("addCode of a number " + type, desk.addCode(type, type, -1, -1), type);
        }
        dueThrow("addCode, a ninth one", desk, STATE, asked -> asked.addCode(3, 3, -1, -1));
        dueThrow("addCode, a ninth one, wrong", desk, ARGUMENT, asked -> asked.addCode(3, 10, -1, -1));
        dueThrow("addCode, a ninth one, wrong third", desk, ARGUMENT, asked -> asked.addCode(3, 3, 10, -1));
        dueThrow("addCode, a ninth one without third", desk, ARGUMENT, asked -> asked.addCode(3, 3, -1, 3));
        desk.dropCode(7);
        due("addCode behind a dropCode", desk.addCode(7, 7, -1, -1), 7);
    }

    private static void dropCode() {
        TelegraphDesk desk = Desks.withWords(1, 2, 3, 4);
        dueThrow("dropCode(0) without codes", desk, INDEX, asked -> asked.dropCode(0));
        desk.addCode(1, 2, -1, -1);
        desk.addCode(2, 3, 4, -1);
        desk.addCode(1, 2, 3, 4);
        for (int code : WRONG_NUMBERS) {
            dueThrow("dropCode(" + code + ")", desk, INDEX, asked -> asked.dropCode(code));
        }
        dueThrow("dropCode(3)", desk, INDEX, asked -> asked.dropCode(3));
        dueGroups("all codes", desk, new int[] {2}, new int[] {0});
        due("dropCode(1)", desk.dropCode(1), 3);
        due("codes()", desk.codes(), 2);
        due("lengthOf(0)", desk.lengthOf(0), 2);
        due("lengthOf(1)", desk.lengthOf(1), 4);
        dueGroups("the last code has a number 1 less", desk, new int[] {1}, new int[] {0});
        due("dropCode(1)", desk.dropCode(1), 4);
        dueGroups("one code is left", desk, new int[] {0, -1, -1}, new int[] {0, 2, 3});
        due("dropCode(0)", desk.dropCode(0), 2);
        dueGroups("no code is left", desk, new int[] {-1, -1, -1, -1}, new int[] {0, 1, 2, 3});
        due("addCode again", desk.addCode(1, 2, 3, 4), 0);
        TelegraphDesk full = Desks.withWords(7, 7, 0, 0);
        for (int type = 0; type < 8; type++) {
            full.addCode(type, type, -1, -1);
        }
        due("dropCode(0) of 8", full.dropCode(0), 2);
        dueGroups("7 of 8 are left", full, new int[] {6, -1, -1}, new int[] {0, 2, 3});
        due("dropCode(6), the last one", full.dropCode(6), 2);
        due("codes()", full.codes(), 6);
    }

    private static void codesAndLengthOf() {
        TelegraphDesk desk = new TelegraphDesk();
        dueThrow("lengthOf(0) without codes", desk, INDEX, asked -> asked.lengthOf(0));
        for (int type = 0; type < 8; type++) {
            due("codes()", desk.codes(), type);
            desk.addCode(type, type, type % 3 > 0 ? 1 : -1, type % 3 > 1 ? 0 : -1);
        }
        due("codes() of 8", desk.codes(), 8);
        for (int code = 0; code < 8; code++) {
            due("lengthOf(" + code + ")", desk.lengthOf(code), 2 + code % 3);
        }
        for (int code : WRONG_NUMBERS) {
            dueThrow("lengthOf(" + code + ")", desk, INDEX, asked -> asked.lengthOf(code));
        }
        dueThrow("lengthOf(8)", desk, INDEX, asked -> asked.lengthOf(8));
    }

    private static void write() {
        TelegraphDesk desk = new TelegraphDesk();
        for (int type : WRONG_NUMBERS) {
            dueThrow("write(" + type + ")", desk, ARGUMENT, asked -> asked.write(type));
        }
        dueThrow("write(10)", desk, ARGUMENT, asked -> asked.write(10));
        for (int i = 0; i < 24; i++) {
            due("write(" + i % 10 + ")", desk.write(i % 10), i + 1);
        }
        dueThrow("write(0), a 25th word", desk, STATE, asked -> asked.write(0));
        dueThrow("write(10), a 25th word", desk, ARGUMENT, asked -> asked.write(10));
        for (int i = 0; i < 24; i++) {
            due("typeOf(" + i + ")", desk.typeOf(i), i % 10);
        }
    }

    private static void strikeAndClear() {
        TelegraphDesk desk = new TelegraphDesk();
        dueThrow("strike() without words", desk, STATE, asked -> asked.strike());
        due("clear() without words", desk.clear(), 0);
        desk.addCode(4, 5, -1, -1);
        Desks.write(desk, 4, 5, 9);
        due("groups()", desk.groups(), 2);
        due("strike()", desk.strike(), 9);
        due("words()", desk.words(), 2);
        due("groups()", desk.groups(), 1);
        due("strike()", desk.strike(), 5);
        dueGroups("a code without its last word", desk, new int[] {-1}, new int[] {0});
        due("strike()", desk.strike(), 4);
        dueThrow("strike() behind the last one", desk, STATE, asked -> asked.strike());
        Desks.writeSame(desk, 6, 24);
        due("clear() of 24", desk.clear(), 24);
        due("words()", desk.words(), 0);
        due("groups()", desk.groups(), 0);
        due("cost()", desk.cost(), 0);
        due("codes() behind clear()", desk.codes(), 1);
        due("clear() again", desk.clear(), 0);
        due("write behind clear()", desk.write(3), 1);
        due("typeOf(0)", desk.typeOf(0), 3);
    }

    private static void wordsAndTypeOf() {
        TelegraphDesk desk = new TelegraphDesk();
        dueThrow("typeOf(0) without words", desk, INDEX, asked -> asked.typeOf(0));
        Desks.write(desk, 7, 0, 9);
        due("words()", desk.words(), 3);
        due("typeOf(0)", desk.typeOf(0), 7);
        due("typeOf(1)", desk.typeOf(1), 0);
        due("typeOf(2)", desk.typeOf(2), 9);
        dueThrow("typeOf(3)", desk, INDEX, asked -> asked.typeOf(3));
        for (int word : WRONG_NUMBERS) {
            dueThrow("typeOf(" + word + ")", desk, INDEX, asked -> asked.typeOf(word));
        }
        desk.strike();
        dueThrow("typeOf(2) behind strike()", desk, INDEX, asked -> asked.typeOf(2));
    }

    private static void groups() {
        TelegraphDesk desk = Desks.withWords(1, 2, 3, 1, 2, 8, 9, 1, 2, 3, 4);
        desk.addCode(1, 2, -1, -1);
        desk.addCode(2, 3, 1, -1);
        desk.addCode(1, 2, 3, 4);
        dueGroups("the longest first group", desk, new int[] {0, -1, 0, -1, -1, 2}, new int[] {0, 2, 3, 5, 6, 7});
        TelegraphDesk greedy = Desks.withWords(1, 1, 1, 2, 3);
        greedy.addCode(1, 1, 1, -1);
        greedy.addCode(1, 1, -1, -1);
        greedy.addCode(1, 2, 3, -1);
        dueGroups("fewest goes before longest first", greedy, new int[] {1, 2}, new int[] {0, 2});
        TelegraphDesk zeros = new TelegraphDesk();
        zeros.addCode(0, 0, -1, -1);
        zeros.addCode(0, 0, 0, -1);
        Desks.writeSame(zeros, 0, 5);
        dueGroups("five zeros", zeros, new int[] {1, 0}, new int[] {0, 3});
        Desks.writeSame(zeros, 0, 2);
        dueGroups("seven zeros", zeros, new int[] {1, 1, -1}, new int[] {0, 3, 6});
        zeros.addCode(0, 0, 0, 0);
        dueGroups("seven zeros, a longer code", zeros, new int[] {2, 1}, new int[] {0, 4});
        zeros.clear();
        Desks.writeSame(zeros, 0, 24);
        dueGroups("24 zeros", zeros, new int[] {2, 2, 2, 2, 2, 2}, new int[] {0, 4, 8, 12, 16, 20});
        TelegraphDesk second = Desks.withWords(5, 1, 1, 1, 1, 1);
        second.addCode(1, 1, -1, -1);
        second.addCode(1, 1, 1, -1);
        dueGroups("the longest second group", second, new int[] {-1, 1, 0}, new int[] {0, 1, 4});
        TelegraphDesk end = Desks.withWords(3, 4, 5);
        end.addCode(4, 5, 6, -1);
        end.addCode(5, 6, -1, -1);
        dueGroups("no code goes over the end", end, new int[] {-1, -1, -1}, new int[] {0, 1, 2});
    }

    private static void groupNumbers() {
        TelegraphDesk desk = Desks.withWords(1, 2, 3);
        desk.addCode(1, 2, -1, -1);
        for (int group : WRONG_NUMBERS) {
            dueThrow("codeOf(" + group + ")", desk, INDEX, asked -> asked.codeOf(group));
            dueThrow("startOf(" + group + ")", desk, INDEX, asked -> asked.startOf(group));
        }
        dueThrow("codeOf(2), words behind the groups", desk, INDEX, asked -> asked.codeOf(2));
        dueThrow("startOf(2), words behind the groups", desk, INDEX, asked -> asked.startOf(2));
        desk.clear();
        dueThrow("codeOf(0) without words", desk, INDEX, asked -> asked.codeOf(0));
        dueThrow("startOf(0) without words", desk, INDEX, asked -> asked.startOf(0));
    }

    private static void usesOf() {
        TelegraphDesk desk = Desks.withWords(1, 2, 5, 1, 2, 6, 6, 6);
        dueThrow("usesOf(0) without codes", desk, INDEX, asked -> asked.usesOf(0));
        desk.addCode(1, 2, -1, -1);
        desk.addCode(7, 7, -1, -1);
        desk.addCode(6, 6, -1, -1);
        due("usesOf(0)", desk.usesOf(0), 2);
        due("usesOf(1)", desk.usesOf(1), 0);
        due("usesOf(2)", desk.usesOf(2), 1);
        dueThrow("usesOf(3)", desk, INDEX, asked -> asked.usesOf(3));
        for (int code : WRONG_NUMBERS) {
            dueThrow("usesOf(" + code + ")", desk, INDEX, asked -> asked.usesOf(code));
        }
        desk.clear();
        due("usesOf(0) without words", desk.usesOf(0), 0);
    }

    private static void countedCostSaved() {
        for (int type = 0; type < 10; type++) {
            due("counted() of a word " + type, Desks.withWords(type).counted(), type >= 8 ? 2 : 1);
        }
        TelegraphDesk desk = Desks.withWords(0, 1, 2, 3, 4, 5, 6, 7, 0, 1);
        due("counted() of ten", desk.counted(), 10);
        due("cost() of ten", desk.cost(), 20);
        desk.write(1);
        due("cost() of eleven", desk.cost(), 23);
        desk.strike();
        desk.write(9);
        due("counted()", desk.counted(), 12);
        due("cost()", desk.cost(), 26);
        due("saved() without codes", desk.saved(), 0);
        desk.addCode(1, 9, -1, -1);
        due("counted() with a code", desk.counted(), 10);
        due("cost() with a code", desk.cost(), 20);
        due("saved()", desk.saved(), 6);
        desk.addCode(0, 1, 2, 3);
        due("counted() with two codes", desk.counted(), 7);
        due("cost() is 20 for fewer than ten", desk.cost(), 20);
        due("saved() is no more", desk.saved(), 6);
        desk.clear();
        due("cost() without words", desk.cost(), 0);
        due("saved() without words", desk.saved(), 0);
        TelegraphDesk nines = new TelegraphDesk();
        Desks.writeSame(nines, 9, 24);
        due("counted() of 24 nines", nines.counted(), 48);
        due("cost() of 24 nines", nines.cost(), 134);
        nines.addCode(9, 9, 9, 9);
        due("counted() of 24 nines, a code", nines.counted(), 6);
        due("saved() of 24 nines", nines.saved(), 114);
    }

    private static void setQuality() {
        TelegraphDesk desk = new TelegraphDesk();
        int before = 7;
        for (int quality = 1; quality <= 9; quality++) {
            due("setQuality(" + quality + ")", desk.setQuality(quality), before);
            before = quality;
        }
        for (int quality : WRONG_NUMBERS) {
            dueThrow("setQuality(" + quality + ")", desk, ARGUMENT, asked -> asked.setQuality(quality));
        }
        dueThrow("setQuality(0)", desk, ARGUMENT, asked -> asked.setQuality(0));
        dueThrow("setQuality(10)", desk, ARGUMENT, asked -> asked.setQuality(10));
        due("the quality behind wrong ones", desk.setQuality(1), 9);
    }

    private static void send() {
        TelegraphDesk desk = new TelegraphDesk();
        dueThrow("send() without words", desk, STATE, asked -> asked.send());
        // n * 7 + n / 10 leaves 7, 4, 1, 8, 5, 2, 9, 6, 3, 1, 8, 5, .. for n from 1 on.
        desk.write(0);
        due("send(), 7 garbled and 4 not", desk.send(), 0);
        due("sentGroups()", desk.sentGroups(), 2);
        due("repeats()", desk.repeats(), 1);
        due("lost()", desk.lost(), 0);
        due("earned()", desk.earned(), 20);
        due("words()", desk.words(), 0);
        due("groups()", desk.groups(), 0);
        due("quality behind send()", desk.setQuality(1), 7);
        dueThrow("send() of a message that was sent", desk, STATE, asked -> asked.send());
        Desks.write(desk, 1, 2);
        due("send(), 1 8 5 2 and 9 6 3 1 garbled", desk.send(), 2);
        due("sentGroups()", desk.sentGroups(), 10);
        due("repeats()", desk.repeats(), 7);
        due("lost()", desk.lost(), 2);
        due("earned()", desk.earned(), 40);
        desk.setQuality(9);
        Desks.writeSame(desk, 8, 11);
        desk.addCode(8, 8, -1, -1);
        due("send() by codes, none lost", desk.send(), 0);
        // Counts 11 to 16 leave 8, 5, 2, 9 .. : 11 is 77 + 1.
        due("sentGroups()", desk.sentGroups(), 17);
        due("repeats()", desk.repeats(), 8);
        due("earned(), what it cost with codes", desk.earned(), 60);
        due("codes() behind send()", desk.codes(), 1);
    }

    private static void threeRepeats() {
        TelegraphDesk desk = new TelegraphDesk();
        desk.setQuality(2);
        sendSingles(desk, 1);
        // Counts 1 and 2 leave 7 and 4, count 3 leaves 1: two repeats.
        due("two repeats: sentGroups()", desk.sentGroups(), 3);
        due("two repeats: repeats()", desk.repeats(), 2);
        desk.write(0);
        due("the third repeat is garbled too", desk.send(), 1);
        due("lost: sentGroups()", desk.sentGroups(), 7);
        due("lost: repeats()", desk.repeats(), 5);
        desk.setQuality(1);
        desk.write(0);
        due("6 3 1 8 are garbled", desk.send(), 1);
        due("lost() of two messages", desk.lost(), 2);
        due("repeats() of three messages", desk.repeats(), 8);
        TelegraphDesk some = new TelegraphDesk();
        some.setQuality(5);
        sendSingles(some, 4);
        // 7 4, 1, 8 5 2, 9 6 3.
        due("some: sentGroups()", some.sentGroups(), 9);
        TelegraphDesk fourth = new TelegraphDesk();
        fourth.setQuality(9);
        sendSingles(fourth, 3);
        fourth.setQuality(2);
        fourth.write(0);
        due("8 5 2 9 are garbled", fourth.send(), 1);
        due("four groups went over", fourth.sentGroups(), 7);
        fourth.setQuality(4);
        fourth.write(0);
        due("6 is garbled, 3 is not", fourth.send(), 0);
        due("sentGroups()", fourth.sentGroups(), 9);
        TelegraphDesk last = new TelegraphDesk();
        last.setQuality(3);
        sendSingles(last, 2);
        // 7 4 1, then 8 5 2: not garbled; then 9 6 3 1 with the last repeat not garbled.
        due("last: sentGroups()", last.sentGroups(), 6);
        last.write(0);
        due("the third repeat goes through", last.send(), 0);
        due("last: sentGroups()", last.sentGroups(), 10);
        due("last: repeats()", last.repeats(), 7);
        due("last: lost()", last.lost(), 0);
    }

    private static void untilGarbled() {
        int[] dueAtStart = {1, 1, 1, 1, 1, 1, 1, 4, 7};
        for (int quality = 1; quality <= 9; quality++) {
            TelegraphDesk desk = new TelegraphDesk();
            desk.setQuality(quality);
            due("untilGarbled() with quality " + quality, desk.untilGarbled(), dueAtStart[quality - 1]);
        }
        TelegraphDesk desk = new TelegraphDesk();
        desk.setQuality(9);
        sendSingles(desk, 6);
        due("untilGarbled() at 6 of quality 9", desk.untilGarbled(), 1);
        sendSingles(desk, 1);
        due("sentGroups()", desk.sentGroups(), 8);
        due("untilGarbled() at 8 of quality 9", desk.untilGarbled(), 6);
        sendSingles(desk, 6);
        due("sentGroups()", desk.sentGroups(), 15);
        // Count 14 leaves 98 + 1, the next one is 21: 147 + 2.
        due("untilGarbled() at 15 of quality 9", desk.untilGarbled(), 6);
    }

    private static void wouldBeGarbledAndRepeats() {
        TelegraphDesk desk = new TelegraphDesk();
        due("wouldBeGarbled() without words", desk.wouldBeGarbled(), 0);
        due("repeatsIfSent() without words", desk.repeatsIfSent(), 0);
        Desks.write(desk, 0, 0);
        // Quality 7: 7 4, 1.
        due("wouldBeGarbled()", desk.wouldBeGarbled(), 1);
        due("repeatsIfSent()", desk.repeatsIfSent(), 1);
        desk.setQuality(1);
        // All but a count that leaves 0: 7 4 1 8, 5 2 9 6.
        due("wouldBeGarbled() of quality 1", desk.wouldBeGarbled(), 2);
        due("repeatsIfSent() of quality 1", desk.repeatsIfSent(), 6);
        due("sentGroups() behind asking", desk.sentGroups(), 0);
        due("repeats() behind asking", desk.repeats(), 0);
        due("words() behind asking", desk.words(), 2);
        desk.addCode(0, 0, -1, -1);
        due("wouldBeGarbled() by codes", desk.wouldBeGarbled(), 1);
        due("repeatsIfSent() by codes", desk.repeatsIfSent(), 3);
        due("send() as asked", desk.send(), 1);
        due("repeats() as asked", desk.repeats(), 3);
    }

    private static void qualityWanted() {
        TelegraphDesk desk = new TelegraphDesk();
        due("qualityWanted() without words", desk.qualityWanted(), 1);
        desk.write(0);
        // 7 4 1 8 are all garbled with quality 1, 1 is not with 2.
        due("qualityWanted() of a word", desk.qualityWanted(), 2);
        desk.write(0);
        // With 2, 8 5 2 9 are lost; with 3, 2 goes through.
        due("qualityWanted() of two words", desk.qualityWanted(), 3);
        due("the quality stays", desk.setQuality(9), 7);
        due("qualityWanted() whatever the quality is", desk.qualityWanted(), 3);
        due("sentGroups() stays", desk.sentGroups(), 0);
        due("lost() stays", desk.lost(), 0);
        TelegraphDesk later = new TelegraphDesk();
        later.setQuality(9);
        Desks.writeSame(later, 0, 12);
        later.send();
        due("later: sentGroups()", later.sentGroups(), 13);
        later.write(0);
        // Counts 14 to 17 leave 9, 6, 3, 0: with 1 the third repeat goes through.
        due("later: qualityWanted()", later.qualityWanted(), 1);
    }

    private static void uselessCode() {
        TelegraphDesk desk = new TelegraphDesk();
        due("uselessCode() without codes", desk.uselessCode(), -1);
        desk.addCode(1, 2, -1, -1);
        due("uselessCode() without words", desk.uselessCode(), 0);
        Desks.write(desk, 1, 2, 3);
        due("uselessCode(), of use", desk.uselessCode(), -1);
        desk.addCode(4, 4, -1, -1);
        due("uselessCode(), not in the message", desk.uselessCode(), 1);
        desk.addCode(2, 3, -1, -1);
        due("usesOf(0)", desk.usesOf(0), 1);
        due("uselessCode(), another one does as well", desk.uselessCode(), 0);
        due("codes() stay", desk.codes(), 3);
        due("groups() stay", desk.groups(), 2);
        due("codeOf(0) stays", desk.codeOf(0), 0);
    }

    private static void bestNewCode() {
        TelegraphDesk desk = Desks.withWords(1, 2, 5, 1, 3, 5, 1);
        for (int length : WRONG_NUMBERS) {
            dueThrow("bestNewCode(" + length + ")", desk, ARGUMENT, asked -> asked.bestNewCode(length));
        }
        for (int length : new int[] {0, 1, 5}) {
            dueThrow("bestNewCode(" + length + ")", desk, ARGUMENT, asked -> asked.bestNewCode(length));
        }
        due("bestNewCode(2), 5 1 is there twice", desk.bestNewCode(2), 2);
        due("bestNewCode(3), the first one", desk.bestNewCode(3), 0);
        desk.addCode(5, 1, -1, -1);
        due("bestNewCode(2) besides 5 1", desk.bestNewCode(2), 0);
        due("bestNewCode(3) besides 5 1", desk.bestNewCode(3), 0);
        TelegraphDesk shortOne = Desks.withWords(1, 2, 3);
        due("bestNewCode(3) of three words", shortOne.bestNewCode(3), 0);
        due("bestNewCode(4) of three words", shortOne.bestNewCode(4), -1);
        shortOne.clear();
        due("bestNewCode(2) without words", shortOne.bestNewCode(2), -1);
        dueThrow("bestNewCode(5) without words", shortOne, ARGUMENT, asked -> asked.bestNewCode(5));
        TelegraphDesk known = Desks.withWords(1, 2);
        known.addCode(1, 2, -1, -1);
        due("bestNewCode(2), a code stands for it", known.bestNewCode(2), 0);
        Desks.write(known, 3, 4);
        due("bestNewCode(2), the other words", known.bestNewCode(2), 2);
        TelegraphDesk full = Desks.withWords(6, 6, 9, 9, 9, 9);
        for (int type = 0; type < 8; type++) {
            full.addCode(type, type, -1, -1);
        }
        due("bestNewCode(2), there are 8", full.bestNewCode(2), 2);
        due("codes() stay", full.codes(), 8);
        due("groups() stay", full.groups(), 5);
        TelegraphDesk last = Desks.withWords(1, 1, 1, 1, 2, 3);
        last.addCode(1, 1, 1, 1);
        due("bestNewCode(2), the last words", last.bestNewCode(2), 4);
    }

    private static void meanLength() {
        TelegraphDesk desk = new TelegraphDesk();
        dueMean("meanLength() without codes", desk.meanLength(), 0.0);
        desk.addCode(0, 0, -1, -1);
        dueMean("meanLength()", desk.meanLength(), 2.0);
        desk.addCode(0, 0, 0, -1);
        dueMean("meanLength()", desk.meanLength(), 2.5);
        desk.addCode(0, 0, 0, 0);
        desk.addCode(0, 0, 0, 1);
        dueMean("meanLength()", desk.meanLength(), 3.25);
        desk.dropCode(0);
        dueMean("meanLength()", desk.meanLength(), 11.0 / 3);
    }

    private static long digestOf(long... numbers) {
        long sum = 2143;
        for (long number : numbers) {
            sum = sum * 31 + number;
        }
        return sum;
    }

    private static void digest() {
        TelegraphDesk desk = new TelegraphDesk();
        due("digest() of a new object", desk.digest(),
                digestOf(0, 0, 0, 0, 0, 0, 0, 0, 0, 0, 1, 0, 0, 1, -1, -1, -1, -1));
        Desks.write(desk, 3, 9, 3);
        desk.addCode(3, 9, -1, -1);
        desk.addCode(5, 5, 5, -1);
        due("digest()", desk.digest(),
                digestOf(2, 3, 2, 2, 20, 0, 0, 0, 0, 0, 1, 1, 1, 3, 1, 0, 0, -1, 2, 1, 3, 0, 3, 9, 3, 0, 0, -1, 2));
        desk.setQuality(1);
        desk.send();
        due("digest() behind send()", desk.digest(),
                digestOf(2, 0, 0, 0, 0, 0, 8, 6, 2, 20, 1, 0, 0, 1, 0, -1, -1, -1, 2, 0, 3, 0));
    }

    public static void main(String[] args) {
        DUES.sentence("Promise 1");
        newObject();
        DUES.sentence("Promise 2");
        addCode();
        DUES.sentence("Promise 3");
        dropCode();
        DUES.sentence("Promises 4 and 5");
        codesAndLengthOf();
        DUES.sentence("Promise 6");
        write();
        DUES.sentence("Promises 7 and 8");
        strikeAndClear();
        DUES.sentence("Promises 9 and 10");
        wordsAndTypeOf();
        DUES.sentence("Promise 11");
        groups();
        DUES.sentence("Promises 12 and 13");
        groupNumbers();
        DUES.sentence("Promise 14");
        usesOf();
        DUES.sentence("Promises 15 to 17");
        countedCostSaved();
        DUES.sentence("Promise 18");
        setQuality();
        DUES.sentence("Promise 19");
        send();
        DUES.sentence("Promises 20 to 23");
        threeRepeats();
        DUES.sentence("Promise 24");
        untilGarbled();
        DUES.sentence("Promises 25 and 26");
        wouldBeGarbledAndRepeats();
        DUES.sentence("Promise 27");
        qualityWanted();
        DUES.sentence("Promise 28");
        uselessCode();
        DUES.sentence("Promise 29");
        bestNewCode();
        DUES.sentence("Promise 30");
        meanLength();
        DUES.sentence("Promise 31");
        digest();
        DUES.end();
    }
}
