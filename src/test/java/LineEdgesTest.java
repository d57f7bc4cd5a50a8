import java.math.BigInteger;
import java.util.ArrayList;
import java.util.List;
import java.util.function.Supplier;

/** The edges of the line and of the checksum (promises 18 to 27 and 31), each sentence by a test of its own. */
public final class LineEdgesTest {
    // What the counts 1, 2, 3 and so on leave, worked out by hand; n / 10 changes it from 10, 20 .. on.
    private static final int[] LEFT = {7, 4, 1, 8, 5, 2, 9, 6, 3,
        1, 8, 5, 2, 9, 6, 3, 0, 7, 4,
        2, 9, 6, 3, 0, 7, 4, 1, 8, 5,
        3, 0, 7, 4, 1, 8, 5, 2, 9, 6, 4};

    private static final int MOST_COUNT = 112;

    private static final Dues DUES = new Dues();

    /** An office over whose line so many groups went, with words of one group each and a quality. */
    private static TelegraphDesk at(int count, int words, int quality) {
        TelegraphDesk desk = Desks.withCount(count);
        Desks.writeSame(desk, 0, words);
        desk.setQuality(quality);
        return desk;
    }

    private static void qualities() {
        TelegraphDesk desk = new TelegraphDesk();
        DUES.due("setQuality(1), 7 at first", desk.setQuality(1), 7);
        for (int quality = 2; quality <= 9; quality++) {
            DUES.due("setQuality(" + quality + ")", desk.setQuality(quality), quality - 1);
        }
        DUES.due("setQuality(9) again", desk.setQuality(9), 9);
        DUES.due("setQuality(1)", desk.setQuality(1), 9);
        refusedQualities("of a new one", TelegraphDesk::new);
        refusedQualities("midway, quality 1", () -> at(5, 3, 1));
        refusedQualities("midway, quality 9", () -> at(5, 3, 9));
    }

    private static void refusedQualities(String name, Supplier<TelegraphDesk> making) {
        DUES.refusedOutside("setQuality " + name, making, Dues.ARGUMENT, 1, 9, TelegraphDesk::setQuality);
    }

    private static void qualityStays() {
        TelegraphDesk desk = at(5, 3, 4);
        desk.send();
        DUES.due("the quality behind send()", desk.setQuality(4), 4);
        desk.write(0);
        desk.clear();
        Desks.addPairs(desk, 1);
        DUES.due("the quality behind clear() and addCode()", desk.setQuality(4), 4);
    }

    private static void countsByHand() {
        for (int count = 1; count <= LEFT.length; count++) {
            for (int quality = 1; quality <= 9; quality++) {
                boolean garbled = LEFT[count - 1] >= quality;
                TelegraphDesk desk = at(count - 1, 1, quality);
                String name = " of the count " + count + " with quality " + quality;
                DUES.due("sentGroups() before that", desk.sentGroups(), count - 1);
                DUES.due("wouldBeGarbled()" + name, desk.wouldBeGarbled(), garbled ? 1 : 0);
                DUES.due("untilGarbled() is 1" + name, desk.untilGarbled() == 1, garbled);
            }
        }
    }

    private static void leavesTheQualityOrMore() {
        for (int count = 1; count <= MOST_COUNT; count++) {
            int left = Desks.left(count);
            TelegraphDesk desk = at(count - 1, 1, 9);
            if (left >= 1) {
                desk.setQuality(left);
                DUES.due("wouldBeGarbled(), " + count + " leaves the quality", desk.wouldBeGarbled(), 1);
            }
            if (left < 9) {
                desk.setQuality(left + 1);
                DUES.due("wouldBeGarbled(), " + count + " leaves 1 less", desk.wouldBeGarbled(), 0);
            }
        }
    }

    private static void sendOfNone() {
        DUES.refused("send() of a new one", TelegraphDesk::new, Dues.STATE, TelegraphDesk::send);
        DUES.refused("send() of none, with codes", () -> {
            TelegraphDesk desk = new TelegraphDesk();
            Desks.addPairs(desk, 8);
            return desk;
        }, Dues.STATE, TelegraphDesk::send);
        DUES.refused("send() of none, struck", () -> {
            TelegraphDesk desk = at(7, 1, 1);
            desk.strike();
            return desk;
        }, Dues.STATE, TelegraphDesk::send);
        DUES.refused("send() of none, sent", () -> {
            TelegraphDesk desk = at(7, 5, 1);
            desk.send();
            return desk;
        }, Dues.STATE, TelegraphDesk::send);
        DUES.refused("send() of none, cleared", () -> {
            TelegraphDesk desk = at(7, 24, 1);
            desk.clear();
            return desk;
        }, Dues.STATE, TelegraphDesk::send);
    }

    private static void sendOfOneAndMost() {
        TelegraphDesk one = at(0, 1, 8);
        DUES.due("send() of one word", one.send(), 0);
        DUES.due("sentGroups() of one word", one.sentGroups(), 1);
        for (int quality = 1; quality <= 9; quality++) {
            TelegraphDesk most = at(0, 24, quality);
            int[] due = Desks.passed(0, 24, quality);
            DUES.due("send() of 24 words", most.send(), due[3]);
            DUES.due("sentGroups() of 24 words", most.sentGroups(), due[0]);
            DUES.due("repeats() of 24 words", most.repeats(), due[2]);
            DUES.due("lost() of 24 words", most.lost(), due[3]);
            DUES.due("earned() of 24 words", most.earned(), 62);
        }
    }

    private static void sendEmpties() {
        TelegraphDesk desk = at(0, 24, 9);
        Desks.addPairs(desk, 3);
        desk.send();
        DUES.due("words()", desk.words(), 0);
        DUES.due("groups()", desk.groups(), 0);
        DUES.due("counted()", desk.counted(), 0);
        DUES.due("cost()", desk.cost(), 0);
        DUES.due("saved()", desk.saved(), 0);
        DUES.due("usesOf(0)", desk.usesOf(0), 0);
        DUES.due("typeOf(0)", Seen.said(desk, d -> d.typeOf(0)), Seen.thrown(Dues.INDEX));
        DUES.due("codes() stay", desk.codes(), 3);
        DUES.due("write(3) as the first one", desk.write(3), 1);
    }

    private static void dueSend(String name, TelegraphDesk desk, int groups, int repeats, int lost) {
        int sent = desk.sentGroups();
        int repeatsBefore = desk.repeats();
        int lostBefore = desk.lost();
        DUES.due(name + ": repeatsIfSent()", desk.repeatsIfSent(), repeats);
        DUES.due(name + ": send()", desk.send(), lost);
        DUES.due(name + ": sentGroups()", desk.sentGroups(), sent + groups + repeats);
        DUES.due(name + ": repeats()", desk.repeats(), repeatsBefore + repeats);
        DUES.due(name + ": lost()", desk.lost(), lostBefore + lost);
    }

    private static void repeatsOfOneGroup() {
        // The counts 1 to 4 leave 7 4 1 8.
        dueSend("not garbled", at(0, 1, 8), 1, 0, 0);
        dueSend("garbled once", at(0, 1, 7), 1, 1, 0);
        dueSend("garbled once", at(0, 1, 5), 1, 1, 0);
        dueSend("garbled twice", at(0, 1, 4), 1, 2, 0);
        dueSend("garbled twice", at(0, 1, 2), 1, 2, 0);
        dueSend("lost", at(0, 1, 1), 1, 3, 1);
        // The counts 7 to 10 leave 9 6 3 1.
        dueSend("garbled three times", at(6, 1, 3), 1, 3, 0);
        dueSend("garbled three times", at(6, 1, 2), 1, 3, 0);
        dueSend("lost at the third repeat", at(6, 1, 1), 1, 3, 1);
        // The counts 4 to 7 leave 8 5 2 9: the last one leaves 9, which no quality lets through.
        dueSend("lost with quality 2", at(3, 1, 2), 1, 3, 1);
        dueSend("two repeats with quality 3", at(3, 1, 3), 1, 2, 0);
    }

    private static void repeatsOfEachGroup() {
        // 7 4 1 8 and 5 2 9 6: each group has three repeats of its own.
        dueSend("both are lost", at(0, 2, 1), 2, 6, 2);
        // 7 4 1 and 8 5 2 9.
        dueSend("the second one is lost", at(0, 2, 2), 2, 5, 1);
        // 8 5 2 9 and 6 3 1.
        dueSend("the first one is lost", at(3, 2, 2), 2, 5, 1);
        // 7 4 1 and 8 5 2.
        dueSend("none is lost", at(0, 2, 3), 2, 4, 0);
        TelegraphDesk codes = at(0, 4, 1);
        Desks.add(codes, 0, 0);
        dueSend("two groups of codes", codes, 2, 6, 2);
        TelegraphDesk nines = Desks.withWords(9, 8);
        nines.setQuality(1);
        dueSend("a word that is counted twice is one group", nines, 2, 6, 2);
    }

    private static void lineGoesOn() {
        TelegraphDesk desk = at(0, 2, 1);
        DUES.due("send(), 7 4 1 8 and 5 2 9 6", desk.send(), 2);
        desk.setQuality(2);
        desk.write(0);
        DUES.due("send() of the next one, 3 1", desk.send(), 0);
        DUES.due("sentGroups()", desk.sentGroups(), 10);
        DUES.due("repeats()", desk.repeats(), 7);
        DUES.due("lost()", desk.lost(), 2);
        desk.setQuality(1);
        desk.write(0);
        DUES.due("send(), 8 5 2 9, its own ones alone", desk.send(), 1);
        DUES.due("lost() of all", desk.lost(), 3);
        Desks.writeSame(desk, 0, 3);
        desk.clear();
        DUES.due("sentGroups() behind clear()", desk.sentGroups(), 14);
        DUES.due("lost() behind clear()", desk.lost(), 3);
    }

    private static void earnedByAll() {
        TelegraphDesk desk = at(0, 10, 9);
        DUES.due("earned() before send()", desk.earned(), 0);
        desk.send();
        DUES.due("earned() of 10", desk.earned(), 20);
        Desks.writeSame(desk, 0, 11);
        desk.send();
        DUES.due("earned() of 10 and 11", desk.earned(), 43);
        Desks.writeSame(desk, 9, 24);
        desk.clear();
        DUES.due("earned() of those that were sent", desk.earned(), 43);
        Desks.writeSame(desk, 0, 24);
        Desks.add(desk, 0, 0);
        desk.send();
        DUES.due("earned(), what it cost with codes", desk.earned(), 69);
        desk.dropCode(0);
        DUES.due("earned() behind dropCode()", desk.earned(), 69);
        desk.setQuality(1);
        desk.write(0);
        desk.send();
        DUES.due("earned() of one that needs repeats too", desk.earned(), 89);
    }

    private static void groupsUntilGarbled() {
        for (int count = 0; count <= MOST_COUNT; count++) {
            TelegraphDesk desk = Desks.withCount(count);
            for (int quality = 1; quality <= 9; quality++) {
                desk.setQuality(quality);
                int due = 1;
                while (Desks.left(count + due) < quality) {
                    due++;
                }
                DUES.due("untilGarbled() at " + count + " with quality " + quality, desk.untilGarbled(), due);
            }
        }
    }

    private static void leastAndMostUntilGarbled() {
        DUES.due("untilGarbled(), the next one", at(6, 0, 9).untilGarbled(), 1);
        DUES.due("untilGarbled(), that one is over", at(7, 0, 9).untilGarbled(), 7);
        DUES.due("untilGarbled(), 22 to 38", at(21, 0, 9).untilGarbled(), 17);
        DUES.due("untilGarbled(), 21", at(20, 0, 9).untilGarbled(), 1);
        DUES.due("untilGarbled() whatever the message is", at(21, 24, 9).untilGarbled(), 17);
    }

    private static void garbledAtFirst() {
        DUES.due("of none", at(0, 0, 1).wouldBeGarbled(), 0);
        DUES.due("of none, later", at(3, 0, 1).wouldBeGarbled(), 0);
        DUES.due("the one is not", at(0, 1, 8).wouldBeGarbled(), 0);
        DUES.due("the one is, and its repeats are not told", at(0, 1, 1).wouldBeGarbled(), 1);
        // 7 4, then 1.
        DUES.due("the first of two", at(0, 2, 7).wouldBeGarbled(), 1);
        // 4 5 6 of 8 5 2 9 with quality 6: 8 5, then 2.
        DUES.due("the first of two, later", at(3, 2, 6).wouldBeGarbled(), 1);
        // 2, then 9 6 3: the second one alone.
        DUES.due("the second of two", at(5, 2, 4).wouldBeGarbled(), 1);
        DUES.due("both", at(0, 2, 1).wouldBeGarbled(), 2);
        for (int quality = 1; quality <= 9; quality++) {
            DUES.due("of 24 with quality " + quality, at(13, 24, quality).wouldBeGarbled(),
                    Desks.passed(13, 24, quality)[1]);
        }
    }

    private static void repeatsAsked() {
        DUES.due("of none", at(0, 0, 1).repeatsIfSent(), 0);
        DUES.due("of none, later", at(3, 0, 1).repeatsIfSent(), 0);
        for (int count = 0; count <= 40; count++) {
            for (int quality = 1; quality <= 9; quality++) {
                for (int words = 1; words <= 4; words++) {
                    int[] due = Desks.passed(count, words, quality);
                    dueSend("of " + words + " at " + count + " with quality " + quality, at(count, words, quality),
                            words, due[2], due[3]);
                }
            }
        }
        TelegraphDesk desk = at(0, 4, 1);
        DUES.due("of four words", desk.repeatsIfSent(), Desks.passed(0, 4, 1)[2]);
        Desks.add(desk, 0, 0, 0, 0);
        DUES.due("of a code for the four", desk.repeatsIfSent(), 3);
    }

    private static int leastWanted(int count, int groups) {
        int quality = 1;
        while (Desks.passed(count, groups, quality)[3] > 0) {
            quality++;
        }
        return quality;
    }

    private static void leastQuality() {
        DUES.due("of none", at(0, 0, 5).qualityWanted(), 1);
        // 9 6 3 0: the third repeat goes through.
        DUES.due("of one at 13", at(13, 1, 9).qualityWanted(), 1);
        // 7 4 1 8: not with 1.
        DUES.due("of one at 0", at(0, 1, 9).qualityWanted(), 2);
        // 8 5 2 9: not with 1 and 2.
        DUES.due("of one at 3", at(3, 1, 9).qualityWanted(), 3);
        DUES.due("of two at 0", at(0, 2, 1).qualityWanted(), 3);
        for (int count = 0; count <= MOST_COUNT; count += 3) {
            for (int words = 1; words <= 24; words += 1 + words / 3) {
                TelegraphDesk desk = at(count, words, 1 + count % 9);
                int wanted = desk.qualityWanted();
                DUES.due("qualityWanted() of " + words + " at " + count, wanted, leastWanted(count, words));
                desk.setQuality(wanted);
                DUES.due("send() with the quality wanted", desk.send(), 0);
                TelegraphDesk other = at(count, words, Math.max(1, wanted - 1));
                DUES.due("send() with 1 less loses some", other.send() > 0, wanted > 1);
            }
        }
    }

    private static void askingChangesNothing() {
        for (int quality = 1; quality <= 9; quality += 2) {
            for (int words = 0; words <= 24; words += 6) {
                TelegraphDesk desk = at(11, words, quality);
                String before = Seen.all(desk);
                for (int times = 0; times < 3; times++) {
                    desk.qualityWanted();
                    desk.repeatsIfSent();
                    desk.wouldBeGarbled();
                    desk.untilGarbled();
                }
                DUES.due("all behind asking, quality " + quality + ", words " + words, Seen.all(desk), before);
            }
        }
    }

    private static List<Number> digested(TelegraphDesk desk) {
        List<Number> all = new ArrayList<>(List.of(desk.codes(), desk.words(), desk.groups(), desk.counted()));
        all.addAll(List.of(desk.cost(), desk.saved(), desk.sentGroups(), desk.repeats(), desk.lost(), desk.earned()));
        all.addAll(List.of(desk.untilGarbled(), desk.wouldBeGarbled(), desk.repeatsIfSent(), desk.qualityWanted()));
        all.addAll(List.of(desk.uselessCode(), desk.bestNewCode(2), desk.bestNewCode(3), desk.bestNewCode(4)));
        for (int code = 0; code < desk.codes(); code++) {
            all.addAll(List.of(desk.lengthOf(code), desk.usesOf(code)));
        }
        for (int word = 0; word < desk.words(); word++) {
            all.add(desk.typeOf(word));
        }
        for (int group = 0; group < desk.groups(); group++) {
            all.addAll(List.of(desk.codeOf(group), desk.startOf(group)));
        }
        return all;
    }

    /** d is reckoned without a wrap, and wrapped around once at the end. */
    private static long wrapped(List<Number> numbers) {
        BigInteger d = BigInteger.valueOf(2143);
        for (Number number : numbers) {
            d = d.multiply(BigInteger.valueOf(31)).add(BigInteger.valueOf(number.longValue()));
        }
        return d.longValue();
    }

    private static void dueDigest(String name, TelegraphDesk desk) {
        long due = wrapped(digested(desk));
        DUES.due("digest() of " + name, desk.digest(), due);
        DUES.due("digest() of " + name + " again", desk.digest(), due);
    }

    private static void digestByHand() {
        List<Number> fresh = List.of(0, 0, 0, 0, 0, 0, 0, 0, 0, 0, 1, 0, 0, 1, -1, -1, -1, -1);
        DUES.due("digest() of a new one", new TelegraphDesk().digest(), wrapped(fresh));
        TelegraphDesk desk = Desks.withWords(3, 9, 3);
        Desks.add(desk, 3, 9);
        Desks.add(desk, 5, 5, 5);
        DUES.due("digest() with all parts", desk.digest(), wrapped(List.of(2, 3, 2, 2, 20, 0, 0, 0, 0, 0, 1, 1, 1, 3, 1,
                0, 0, -1, 2, 1, 3, 0, 3, 9, 3, 0, 0, -1, 2)));
    }

    private static void digestWrapsAround() {
        boolean negative = false;
        boolean positive = false;
        for (int count = 0; count <= 40; count++) {
            TelegraphDesk desk = at(count, count % 25, 1 + count % 9);
            Desks.addPairs(desk, count % 9);
            dueDigest("an office at " + count, desk);
            negative |= desk.digest() < 0;
            positive |= desk.digest() > 0;
        }
        DUES.due("some checksums are below 0 and some above", negative && positive, true);
        TelegraphDesk full = new TelegraphDesk();
        Desks.writeSame(full, 9, 24);
        Desks.addPairs(full, 8);
        dueDigest("24 words and 8 codes", full);
    }

    private static void atTheLastCall() {
        TelegraphDesk desk = new TelegraphDesk();
        desk.setQuality(1);
        int calls = 1;
        int[] line = new int[4];
        int repeats = 0;
        int lost = 0;
        for (int message = 0; message < 19; message++) {
            Desks.writeSame(desk, 9, 24);
            line = Desks.passed(line[0], 24, 1);
            repeats += line[2];
            lost += line[3];
            DUES.due("send() of the message " + message, desk.send(), line[3]);
            calls += 25;
        }
        Desks.writeSame(desk, 9, 24);
        Desks.add(desk, 9, 9, 9, 9);
        calls += 25;
        DUES.due("sentGroups()", desk.sentGroups(), line[0]);
        DUES.due("repeats()", desk.repeats(), repeats);
        DUES.due("lost()", desk.lost(), lost);
        DUES.due("earned()", desk.earned(), 19 * 134);
        DUES.due("groups()", desk.groups(), 6);
        DUES.due("startOf(5)", desk.startOf(5), 20);
        DUES.due("saved()", desk.saved(), 114);
        calls += 7;
        while (calls < 511) {
            DUES.due("words()", desk.words(), 24);
            calls++;
        }
        DUES.due("the 512th call: send()", desk.send(), Desks.passed(line[0], 6, 1)[3]);
    }

    public static void main(String[] args) {
        DUES.sentence("It has a quality, 1 to 9 (7, at first); IllegalArgumentException if quality is not 1 to 9");
        qualities();
        DUES.sentence("setQuality: the quality from now on");
        qualityStays();
        DUES.sentence("n * 7 and n / 10, added; / is cut towards 0; the count n, from 1 on");
        countsByHand();
        DUES.sentence("leave the quality, or more, divided by 10");
        leavesTheQualityOrMore();
        DUES.sentence("send: IllegalStateException if it has no words");
        sendOfNone();
        DUES.sentence("send: Returns how many groups are lost.");
        sendOfOneAndMost();
        DUES.sentence("Sends the message, and empties it.");
        sendEmpties();
        DUES.sentence("until it is not garbled, or 3 repeats were asked; if the last one is garbled as well, lost");
        repeatsOfOneGroup();
        DUES.sentence("each group of it, in their order, goes over the line; 3 repeats were asked for it");
        repeatsOfEachGroup();
        DUES.sentence("sentGroups, repeats, lost: how many went over, were asked, were lost");
        lineGoesOn();
        DUES.sentence("earned: Returns what all messages that were sent cost.");
        earnedByAll();
        DUES.sentence("how many groups go over the line until one is garbled");
        groupsUntilGarbled();
        DUES.sentence("untilGarbled: that one as well");
        leastAndMostUntilGarbled();
        DUES.sentence("garbled as they go over the line the first time");
        garbledAtFirst();
        DUES.sentence("how many repeats would be asked, if it was sent now");
        repeatsAsked();
        DUES.sentence("the least quality, 1 to 9, with which no group would be lost");
        leastQuality();
        DUES.sentence("untilGarbled, wouldBeGarbled, repeatsIfSent, qualityWanted: (nothing is changed)");
        askingChangesNothing();
        DUES.sentence("digest: A number d starts with 2143");
        digestByHand();
        DUES.sentence("which wraps around as a 64-bit integer");
        digestWrapsAround();
        DUES.sentence("An object is used for at most 512 calls after it has been made");
        atTheLastCall();
        DUES.end();
    }
}
