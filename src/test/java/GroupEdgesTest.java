import java.util.Arrays;
import java.util.List;
import java.util.function.Supplier;

/**
 * The edges of groups, of what is counted and paid, and of the codes that one can ask for
 * (promises 11 to 17 and 28 to 30), each sentence by a test of its own.
 */
public final class GroupEdgesTest {
    private static final Dues DUES = new Dues();

    /** 11 words of 6 groups, with three codes. */
    private static TelegraphDesk six() {
        TelegraphDesk desk = Desks.withWords(1, 2, 3, 1, 2, 8, 9, 1, 2, 3, 4);
        Desks.add(desk, 1, 2);
        Desks.add(desk, 2, 3, 1);
        Desks.add(desk, 1, 2, 3, 4);
        return desk;
    }

    private static TelegraphDesk coded(int[] words, int[]... rows) {
        TelegraphDesk desk = Desks.withWords(words);
        for (int[] row : rows) {
            Desks.add(desk, row);
        }
        return desk;
    }

    private static int[] words(int... types) {
        return types;
    }

    /** A row of as many words 0. */
    private static int[] zeros(int times) {
        return new int[times];
    }

    private static void noneOneAndMostGroups() {
        DUES.due("groups() of none", new TelegraphDesk().groups(), 0);
        DUES.due("groups() of none, with a code", coded(words(), zeros(2)).groups(), 0);
        DUES.groups("a word", Desks.withWords(0), new int[] {-1}, new int[] {0});
        DUES.groups("a code", coded(zeros(4), zeros(4)), new int[] {0}, new int[] {0});
        TelegraphDesk most = Desks.withWords(zeros(24));
        DUES.due("groups() of 24", most.groups(), 24);
        for (int group = 0; group < 24; group++) {
            DUES.due("codeOf(" + group + ")", most.codeOf(group), -1);
            DUES.due("startOf(" + group + ")", most.startOf(group), group);
        }
        Desks.add(most, 0, 0, 0, 0);
        DUES.groups("24 by fours", most, zeros(6), new int[] {0, 4, 8, 12, 16, 20});
        TelegraphDesk twelve = coded(zeros(24), zeros(2));
        DUES.due("groups() of 24 by twos", twelve.groups(), 12);
        DUES.due("startOf(11)", twelve.startOf(11), 22);
    }

    private static void justTheWordsThere() {
        int[] row = {4, 5, 6, 7};
        for (int length = 2; length <= 4; length++) {
            int[] code = Arrays.copyOf(row, length);
            DUES.groups("the words of a code of " + length, coded(code, code), new int[] {0}, new int[] {0});
            for (int place = 0; place < length; place++) {
                int[] other = code.clone();
                other[place] = 0;
                TelegraphDesk desk = coded(other, code);
                DUES.due("groups(), another word at " + place + " of " + length, desk.groups(), length);
                DUES.due("usesOf(0), another word at " + place + " of " + length, desk.usesOf(0), 0);
            }
            TelegraphDesk cut = coded(Arrays.copyOf(code, length - 1), code);
            DUES.due("groups(), one word fewer than " + length, cut.groups(), length - 1);
            TelegraphDesk more = coded(Arrays.copyOf(row, length), Arrays.copyOf(row, 2));
            DUES.due("usesOf(0), a code of 2 for " + length, more.usesOf(0), 1);
        }
        DUES.groups("a code of 3 whose row goes over the end", coded(words(3, 4, 5), words(4, 5, 6)),
                new int[] {-1, -1, -1}, new int[] {0, 1, 2});
        TelegraphDesk atMost = Desks.withWords(zeros(20));
        Desks.write(atMost, 1, 2, 3, 4);
        Desks.add(atMost, 1, 2, 3, 4);
        DUES.due("codeOf(20), the words 20 to 23", atMost.codeOf(20), 0);
        Desks.add(atMost, 3, 4, 5);
        Desks.add(atMost, 4, 5);
        DUES.due("usesOf(1), beyond word 23", atMost.usesOf(1), 0);
        DUES.due("usesOf(2), beyond word 23", atMost.usesOf(2), 0);
    }

    private static void noWordsThatWereTakenOut() {
        TelegraphDesk desk = coded(words(1, 2, 3), words(2, 3), words(1, 2, 3));
        desk.strike();
        DUES.groups("the word behind was taken out", desk, new int[] {-1, -1}, new int[] {0, 1});
        desk.clear();
        desk.write(1);
        DUES.groups("the words were cleared", desk, new int[] {-1}, new int[] {0});
    }

    private static void fewestGoesFirst() {
        DUES.groups("fewest, with a shorter first one", coded(words(1, 1, 1, 2, 3), words(1, 1, 1), words(1, 1),
                words(1, 2, 3)), new int[] {1, 2}, new int[] {0, 2});
        DUES.groups("fewest, with a word first", coded(words(1, 2, 3, 4, 5), words(1, 2), words(2, 3, 4, 5)),
                new int[] {-1, 1}, new int[] {0, 1});
        DUES.groups("the longest one is not taken", coded(words(1, 2, 3, 4, 5, 6), words(1, 2), words(2, 3, 4, 5),
                words(3, 4), words(5, 6)), new int[] {0, 2, 3}, new int[] {0, 2, 4});
        DUES.groups("not the cheapest", coded(words(1, 1, 8), words(1, 8), words(1, 1)),
                new int[] {1, -1}, new int[] {0, 2});
    }

    private static void longestFirstOne() {
        DUES.groups("2 and 1, not 1 and 2", coded(zeros(3), zeros(2)), new int[] {0, -1}, new int[] {0, 2});
        DUES.groups("3 and 1, not 2 and 2", coded(zeros(4), zeros(2), zeros(3)), new int[] {1, -1}, new int[] {0, 3});
        DUES.groups("3 and 2, not 2 and 3", coded(zeros(5), zeros(2), zeros(3)), new int[] {1, 0}, new int[] {0, 3});
        DUES.groups("4 and 2, not 3 and 3", coded(zeros(6), zeros(4), zeros(3), zeros(2)),
                new int[] {0, 2}, new int[] {0, 4});
        DUES.groups("4 and 3, not 3 and 4", coded(zeros(7), zeros(2), zeros(4), zeros(3)),
                new int[] {1, 2}, new int[] {0, 4});
    }

    private static void longestNextOnes() {
        int[][] twoAndThree = {zeros(2), zeros(3)};
        DUES.groups("the second one", coded(words(5, 0, 0, 0, 0, 0), twoAndThree),
                new int[] {-1, 1, 0}, new int[] {0, 1, 4});
        DUES.groups("the third one", coded(words(5, 6, 0, 0, 0, 0, 0), twoAndThree),
                new int[] {-1, -1, 1, 0}, new int[] {0, 1, 2, 5});
        DUES.groups("the last but one, word 22", coded(words(9, 8, 7, 6, 5, 9, 8, 7, 6, 5, 9, 8, 7, 6, 5, 9, 8, 7, 6, 5,
                9, 0, 0, 0), zeros(2)), new int[] {-1, -1, -1, -1, -1, -1, -1, -1, -1, -1, -1, -1, -1, -1, -1, -1, -1,
                -1, -1, -1, -1, 0, -1}, new int[] {0, 1, 2, 3, 4, 5, 6, 7, 8, 9, 10, 11, 12, 13, 14, 15, 16, 17, 18, 19,
                20, 21, 23});
        DUES.groups("the second one behind a code", coded(words(1, 2, 0, 0, 0), zeros(2), words(1, 2)),
                new int[] {1, 0, -1}, new int[] {0, 2, 4});
        DUES.groups("whichever code was added first", coded(words(5, 0, 0, 0, 0, 0), zeros(3), zeros(2)),
                new int[] {-1, 0, 1}, new int[] {0, 1, 4});
    }

    private static TelegraphDesk sent() {
        TelegraphDesk desk = six();
        desk.send();
        return desk;
    }

    private static void noSuchGroup(String name, Seen.NumberCall call) {
        DUES.refusedIndexes(name, TelegraphDesk::new, 0, call);
        DUES.refusedIndexes(name, () -> Desks.withWords(9), 1, call);
        DUES.refusedIndexes(name, GroupEdgesTest::six, 6, call);
        DUES.refusedIndexes(name, () -> Desks.withWords(zeros(24)), 24, call);
        DUES.refusedIndexes(name + " behind send(),", GroupEdgesTest::sent, 0, call);
        DUES.refusedIndexes(name + " with a code for all,", () -> coded(zeros(4), zeros(4)), 1, call);
    }

    private static void codeOrWord() {
        DUES.groups("six groups", six(), new int[] {0, -1, 0, -1, -1, 2}, new int[] {0, 2, 3, 5, 6, 7});
        TelegraphDesk eight = Desks.withWords(7, 7, 0, 0);
        Desks.addPairs(eight, 8);
        DUES.groups("the last code of 8, and the first", eight, new int[] {7, 0}, new int[] {0, 2});
        eight.dropCode(0);
        DUES.groups("the last code of 7, and words", eight, new int[] {6, -1, -1}, new int[] {0, 2, 3});
        TelegraphDesk later = Desks.withWords(1, 2);
        DUES.groups("before the code", later, new int[] {-1, -1}, new int[] {0, 1});
        Desks.add(later, 1, 2);
        DUES.groups("with the code", later, new int[] {0}, new int[] {0});
        later.dropCode(0);
        DUES.groups("behind the code", later, new int[] {-1, -1}, new int[] {0, 1});
    }

    private static void usesOfEach() {
        TelegraphDesk desk = six();
        DUES.due("usesOf(0)", desk.usesOf(0), 2);
        DUES.due("usesOf(1), in the message but no group", desk.usesOf(1), 0);
        DUES.due("usesOf(2)", desk.usesOf(2), 1);
        desk.clear();
        for (int code = 0; code < 3; code++) {
            DUES.due("usesOf(" + code + ") without words", desk.usesOf(code), 0);
        }
        TelegraphDesk most = coded(zeros(24), zeros(2));
        DUES.due("usesOf(0), most", most.usesOf(0), 12);
        DUES.refusedIndexes("usesOf", TelegraphDesk::new, 0, TelegraphDesk::usesOf);
        DUES.refusedIndexes("usesOf", () -> Desks.withWords(1, 2, 3), 0, TelegraphDesk::usesOf);
        DUES.refusedIndexes("usesOf", GroupEdgesTest::six, 3, TelegraphDesk::usesOf);
        DUES.refusedIndexes("usesOf", () -> {
            TelegraphDesk full = Desks.withWords(7, 7, 0, 0);
            Desks.addPairs(full, 8);
            return full;
        }, 8, TelegraphDesk::usesOf);
    }

    private static void wordsCountedTwice() {
        for (int type = 0; type <= 9; type++) {
            DUES.due("counted() of a word " + type, Desks.withWords(type).counted(), type <= 7 ? 1 : 2);
            DUES.due("counted() of two words " + type, Desks.withWords(type, type).counted(), type <= 7 ? 2 : 4);
            TelegraphDesk desk = coded(words(type, type, type), words(type, type));
            DUES.due("counted() of a code and a word " + type, desk.counted(), type <= 7 ? 2 : 3);
        }
        DUES.due("counted() of none", new TelegraphDesk().counted(), 0);
        TelegraphDesk most = new TelegraphDesk();
        Desks.writeSame(most, 9, 24);
        DUES.due("counted() of 24 words 9", most.counted(), 48);
    }

    private static void codesCountedOnce() {
        for (int length = 2; length <= 4; length++) {
            int[] row = new int[length];
            Arrays.fill(row, 8);
            DUES.due("counted() of a code of " + length + " words 8", coded(row, row).counted(), 1);
        }
    }

    private static void costOfCounted() {
        DUES.due("cost() of none", new TelegraphDesk().cost(), 0);
        DUES.due("cost() of none, with a code", coded(words(), words(1, 2)).cost(), 0);
        int[] due = {0, 20, 20, 20, 20, 20, 20, 20, 20, 20, 20, 23, 26, 29};
        for (int words = 1; words < due.length; words++) {
            DUES.due("cost() of " + words + " counted", Desks.withWords(zeros(words)).cost(), due[words]);
        }
        DUES.due("cost() of 24 counted", Desks.withWords(zeros(24)).cost(), 62);
        TelegraphDesk twice = new TelegraphDesk();
        Desks.writeSame(twice, 8, 5);
        DUES.due("cost() of 5 words 8", twice.cost(), 20);
        twice.write(0);
        DUES.due("cost() of 5 words 8 and one 0", twice.cost(), 23);
        Desks.writeSame(twice, 8, 18);
        DUES.due("cost() of 23 words 8 and one 0", twice.cost(), 131);
        twice.strike();
        twice.clear();
        DUES.due("cost() behind clear()", twice.cost(), 0);
    }

    private static void savedByCodes() {
        int[] pair = {0, 0};
        DUES.due("saved() of none", coded(words(), pair).saved(), 0);
        DUES.due("saved() of 10, a code", coded(zeros(10), pair).saved(), 0);
        DUES.due("saved() of 11, a code", coded(zeros(11), pair).saved(), 3);
        DUES.due("saved() of 12, a code", coded(zeros(12), pair).saved(), 6);
        DUES.due("saved() of 12 without codes", Desks.withWords(zeros(12)).saved(), 0);
        DUES.due("saved() of 12, a code that is not used", coded(zeros(12), words(1, 1)).saved(), 0);
        // 22 are counted 11, 24 are counted 12, each for 3 more than 10.
        DUES.due("saved() of 22, a code", coded(zeros(22), pair).saved(), 33);
        DUES.due("saved() of 24, a code", coded(zeros(24), pair).saved(), 36);
        TelegraphDesk nines = coded(words(), words(9, 9, 9, 9));
        Desks.writeSame(nines, 9, 24);
        DUES.due("saved() of 24 words 9", nines.saved(), 114);
        nines.dropCode(0);
        DUES.due("saved() when the code is dropped", nines.saved(), 0);
        TelegraphDesk six = six();
        DUES.due("saved() of 13 counted 8", six.saved(), 9);
    }

    private static void codesOfNoUse() {
        DUES.due("without codes and words", new TelegraphDesk().uselessCode(), -1);
        DUES.due("without codes", Desks.withWords(1, 2).uselessCode(), -1);
        DUES.due("without words", coded(words(), words(1, 2)).uselessCode(), 0);
        DUES.due("of use", coded(words(1, 2), words(1, 2)).uselessCode(), -1);
        DUES.due("not in the message", coded(words(1, 2), words(2, 1)).uselessCode(), 0);
        DUES.due("one word more", coded(words(1, 2), words(1, 2, 3)).uselessCode(), 0);
        DUES.due("used, but another does as well", coded(words(1, 2, 3), words(1, 2), words(2, 3)).uselessCode(), 0);
        DUES.due("used, and no other does", coded(words(1, 2, 3), words(1, 2, 3), words(2, 3)).uselessCode(), 1);
        // 81 1 and the rest are counted 11, but 8 11 and the rest 12.
        DUES.due("as many groups, though the message costs more",
                coded(words(8, 1, 1, 0, 2, 3, 4, 5, 6, 7, 2, 3), words(8, 1), words(1, 1)).uselessCode(), 0);
        DUES.due("the longest first one, and of no use", coded(zeros(4), zeros(3), zeros(2)).uselessCode(), 0);
    }

    private static void smallestOfNoUse() {
        DUES.due("the second and the third",
                coded(words(1, 2), words(1, 2), words(3, 4), words(5, 6)).uselessCode(), 1);
        DUES.due("the first and the third", coded(words(1, 2), words(3, 4), words(1, 2), words(5, 6)).uselessCode(), 0);
        TelegraphDesk eight = Desks.withWords(0, 0, 1, 1, 2, 2, 3, 3, 4, 4, 5, 5, 6, 6, 7, 7);
        Desks.addPairs(eight, 8);
        DUES.due("8, all of use", eight.uselessCode(), -1);
        eight.strike();
        DUES.due("8, the last of no use", eight.uselessCode(), 7);
        eight.strike();
        eight.strike();
        DUES.due("8, the last two of no use", eight.uselessCode(), 6);
    }

    private static void uselessChangesNothing() {
        for (Supplier<TelegraphDesk> making : List.<Supplier<TelegraphDesk>>of(TelegraphDesk::new, GroupEdgesTest::six,
                GroupEdgesTest::sent, () -> Desks.withWords(zeros(24)))) {
            TelegraphDesk desk = making.get();
            String before = Seen.all(desk);
            desk.uselessCode();
            for (int length = 2; length <= 4; length++) {
                desk.bestNewCode(length);
            }
            DUES.due("all behind uselessCode() and bestNewCode()", Seen.all(desk), before);
        }
    }

    private static void lengthsOfANewCode() {
        DUES.refusedOutside("bestNewCode", GroupEdgesTest::six, Dues.ARGUMENT, 2, 4, TelegraphDesk::bestNewCode);
        DUES.refusedOutside("bestNewCode of none", TelegraphDesk::new, Dues.ARGUMENT, 2, 4,
                TelegraphDesk::bestNewCode);
    }

    private static void notSoManyWords() {
        for (int length = 2; length <= 4; length++) {
            for (int words = 0; words <= 6; words++) {
                TelegraphDesk desk = Desks.withWords(zeros(words));
                DUES.due("bestNewCode(" + length + ") of " + words + " words", desk.bestNewCode(length),
                        words < length ? -1 : 0);
            }
        }
    }

    private static void fewestGroupsByANewCode() {
        DUES.due("twice there", Desks.withWords(1, 2, 5, 1, 3, 5, 1).bestNewCode(2), 2);
        DUES.due("twice there, but only once for words apart", Desks.withWords(1, 1, 1, 2, 3, 2, 3).bestNewCode(2), 3);
        DUES.due("the last words", coded(words(1, 1, 1, 1, 2, 3), words(1, 1, 1, 1)).bestNewCode(2), 4);
        DUES.due("the last three", coded(words(1, 1, 1, 1, 2, 3, 4), words(1, 1, 1, 1)).bestNewCode(3), 4);
        DUES.due("the last four", coded(words(1, 1, 1, 1, 2, 3, 4, 5), words(1, 1, 1, 1)).bestNewCode(4), 4);
        DUES.due("together with a code", coded(words(1, 2, 3, 4, 5, 6), words(1, 2, 3), words(5, 6)).bestNewCode(2), 0);
        DUES.due("a code for these words is there", coded(words(1, 2, 1, 2, 3, 4), words(1, 2)).bestNewCode(2), 4);
        TelegraphDesk most = Desks.withWords(zeros(20));
        Desks.write(most, 1, 2, 3, 4);
        Desks.add(most, 0, 0, 0, 0);
        DUES.due("bestNewCode(4), the words 20 to 23", most.bestNewCode(4), 20);
        DUES.due("bestNewCode(3), the words 20 to 22", most.bestNewCode(3), 20);
        Desks.add(most, 1, 2);
        DUES.due("bestNewCode(2), the words 22 to 23", most.bestNewCode(2), 22);
    }

    private static void smallestOfSeveral() {
        DUES.due("all bring as few", Desks.withWords(1, 2, 3, 4).bestNewCode(2), 0);
        DUES.due("as few, though with a later one fewer are counted", Desks.withWords(1, 2, 9, 9).bestNewCode(2), 0);
        DUES.due("as few, though with a later one the message costs less",
                Desks.withWords(1, 2, 3, 4, 5, 6, 7, 0, 1, 3, 9, 9).bestNewCode(2), 0);
        DUES.due("1 2 and 3 4 twice", Desks.withWords(5, 1, 2, 3, 4, 1, 2, 3, 4).bestNewCode(2), 1);
        DUES.due("none brings fewer", coded(words(1, 2, 3), words(1, 2, 3)).bestNewCode(2), 0);
        DUES.due("a code for the only ones", coded(words(1, 2), words(1, 2)).bestNewCode(2), 0);
    }

    private static void whetherThereAreEightOrNot() {
        for (int codes = 6; codes <= 8; codes++) {
            TelegraphDesk desk = Desks.withWords(0, 0, 9, 9, 9, 9);
            Desks.addPairs(desk, codes);
            String before = Seen.all(desk);
            DUES.due("bestNewCode(2) with " + codes, desk.bestNewCode(2), 2);
            DUES.due("bestNewCode(4) with " + codes, desk.bestNewCode(4), 2);
            DUES.due("all behind bestNewCode with " + codes, Seen.all(desk), before);
        }
    }

    private static void meanOfLengths() {
        DUES.due("meanLength() without any", new TelegraphDesk().meanLength(), 0.0);
        DUES.due("meanLength() of 2", coded(words(), zeros(2)).meanLength(), 2.0);
        DUES.due("meanLength() of 3", coded(words(), zeros(3)).meanLength(), 3.0);
        DUES.due("meanLength() of 4", coded(words(), zeros(4)).meanLength(), 4.0);
        DUES.due("meanLength() of 2 and 3", coded(words(), zeros(2), zeros(3)).meanLength(), 2.5);
        TelegraphDesk desk = coded(words(1, 2, 3), zeros(2), zeros(3), zeros(4));
        desk.dropCode(1);
        DUES.due("meanLength() of 2 and 4", desk.meanLength(), 3.0);
        Desks.add(desk, 1, 1);
        DUES.due("meanLength() of 2, 4 and 2", desk.meanLength(), 8.0 / 3);
        desk.clear();
        DUES.due("meanLength() behind clear()", desk.meanLength(), 8.0 / 3);
        for (int type = 2; type <= 6; type++) {
            Desks.add(desk, type, type, type);
        }
        DUES.due("meanLength() of 8", desk.meanLength(), 23.0 / 8);
        for (int left = 8; left > 0; left--) {
            desk.dropCode(0);
        }
        DUES.due("meanLength() when all are dropped", desk.meanLength(), 0.0);
    }

    public static void main(String[] args) {
        DUES.sentence("groups: Returns how many groups it is shortened to.");
        noneOneAndMostGroups();
        DUES.sentence("each is a word, or a code that stands for just the words there");
        justTheWordsThere();
        noWordsThatWereTakenOut();
        DUES.sentence("It is shortened to the fewest groups");
        fewestGoesFirst();
        DUES.sentence("of several ways with so many that one is taken which has the longest first group");
        longestFirstOne();
        DUES.sentence("of those as long the longest second one, and so on");
        longestNextOnes();
        DUES.sentence("codeOf: Returns its code; -1 if it is a word.");
        codeOrWord();
        DUES.sentence("codeOf: IndexOutOfBoundsException if there is no such group");
        noSuchGroup("codeOf", TelegraphDesk::codeOf);
        DUES.sentence("startOf: IndexOutOfBoundsException if there is no such group");
        noSuchGroup("startOf", TelegraphDesk::startOf);
        DUES.sentence("usesOf: IndexOutOfBoundsException if there is no such code");
        usesOfEach();
        DUES.sentence("A word of the types 8 and 9 is counted twice, each other word once");
        wordsCountedTwice();
        DUES.sentence("and each code, once");
        codesCountedOnce();
        DUES.sentence("20 for the first 10 that are counted (or fewer), and 3 for each one more; without words 0");
        costOfCounted();
        DUES.sentence("saved: how much less that is than it would cost without codes");
        savedByCodes();
        DUES.sentence("the code without which the message would have no more groups; -1 if there is none");
        codesOfNoUse();
        DUES.sentence("uselessCode: of several the smallest number");
        smallestOfNoUse();
        DUES.sentence("uselessCode, bestNewCode: (nothing is changed)");
        uselessChangesNothing();
        DUES.sentence("bestNewCode: IllegalArgumentException if length is not 2 to 4");
        lengthsOfANewCode();
        DUES.sentence("-1 if there are not so many words");
        notSoManyWords();
        DUES.sentence("for which a code more would bring the fewest groups");
        fewestGroupsByANewCode();
        DUES.sentence("bestNewCode: of several the smallest number");
        smallestOfSeveral();
        DUES.sentence("whether there are 8 or not");
        whetherThereAreEightOrNot();
        DUES.sentence("meanLength: 0 without any");
        meanOfLengths();
        DUES.end();
    }
}
