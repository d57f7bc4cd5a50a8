/** Offices made ready for a test; no test itself, the tests use it. */
final class Desks {
    private Desks() {
    }

    static TelegraphDesk withWords(int... types) {
        TelegraphDesk desk = new TelegraphDesk();
        write(desk, types);
        return desk;
    }

    static void write(TelegraphDesk desk, int... types) {
        for (int type : types) {
            desk.write(type);
        }
    }

    static void writeSame(TelegraphDesk desk, int type, int times) {
        for (int i = 0; i < times; i++) {
            desk.write(type);
        }
    }

    /** Adds a code for a row of 2 to 4 words. */
    static int add(TelegraphDesk desk, int... row) {
        return desk.addCode(row[0], row[1], row.length > 2 ? row[2] : -1, row.length > 3 ? row[3] : -1);
    }

    /** Adds codes for the rows 0 0, 1 1, 2 2 and so on. */
    static void addPairs(TelegraphDesk desk, int pairs) {
        for (int type = 0; type < pairs; type++) {
            add(desk, type, type);
        }
    }

    /** 8 codes for the rows 0 0 to 7 7, and the 24 words 0 0 1 1 .. 9 9 0 0 1 1. */
    static TelegraphDesk full() {
        TelegraphDesk desk = new TelegraphDesk();
        addPairs(desk, 8);
        for (int word = 0; word < 24; word++) {
            desk.write(word / 2 % 10);
        }
        return desk;
    }

    /** What is left by the count n, as the document's line has it. */
    static int left(int count) {
        return (count * 7 + count / 10) % 10;
    }

    /**
     * An office over whose line so many groups went, by messages of one word, with quality 9 then;
     * three calls for a count at most.
     */
    static TelegraphDesk withCount(int count) {
        TelegraphDesk desk = new TelegraphDesk();
        advance(desk, count);
        desk.setQuality(9);
        return desk;
    }

    // A count that leaves 9 is garbled with each quality: the line can only rest at it when the
    // group is lost there, after the three counts before it.
    private static void advance(TelegraphDesk desk, int count) {
        if (count == 0) {
            return;
        }
        boolean lostThere = left(count) == 9;
        advance(desk, lostThere ? count - 4 : count - 1);
        desk.setQuality(lostThere ? 1 : 9);
        desk.write(0);
        desk.send();
    }

    /** What comes of so many groups over a line: the count then, garbled at first, repeats, lost. */
    static int[] passed(int count, int groups, int quality) {
        int[] result = {count, 0, 0, 0};
        for (int group = 0; group < groups; group++) {
            int times = 1;
            while (times < 4 && left(result[0] + times) >= quality) {
                times++;
            }
            result[1] += left(result[0] + 1) >= quality ? 1 : 0;
            result[3] += left(result[0] + times) >= quality ? 1 : 0;
            result[0] += times;
            result[2] += times - 1;
        }
        return result;
    }
}
