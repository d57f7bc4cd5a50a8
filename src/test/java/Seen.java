/** All that can be asked of an office, told as one text; no test itself, the tests use it. */
final class Seen {
    /** A call of the face. */
    interface Call {
        Object answer(TelegraphDesk desk);
    }

    /** A call that asks for a code, a word, a group or a length. */
    interface NumberCall {
        Object answer(TelegraphDesk desk, int number);
    }

    private final TelegraphDesk desk;
    private final StringBuilder text = new StringBuilder();

    private Seen(TelegraphDesk desk) {
        this.desk = desk;
    }

    /** What a call answers, or the exception that it throws: only just this class bears its name. */
    static String said(TelegraphDesk desk, Call call) {
        try {
            return String.valueOf(call.answer(desk));
        } catch (RuntimeException thrown) {
            return "throws." + thrown.getClass().getName();
        }
    }

    /** How said() tells an exception. */
    static String thrown(Class<?> exception) {
        return "throws." + exception.getName();
    }

    /** At most some 140 calls: an object is used for 512 of them, so this can be looked at twice. */
    static String all(TelegraphDesk desk) {
        Seen seen = new Seen(desk);
        seen.tellNumbers();
        seen.tellEach("lengthOf", desk.codes(), TelegraphDesk::lengthOf);
        seen.tellEach("usesOf", desk.codes(), TelegraphDesk::usesOf);
        seen.tellEach("typeOf", desk.words(), TelegraphDesk::typeOf);
        seen.tellEach("codeOf", desk.groups(), TelegraphDesk::codeOf);
        seen.tellEach("startOf", desk.groups(), TelegraphDesk::startOf);
        seen.tellQuality();
        return seen.text.toString();
    }

    private void tellNumbers() {
        tell("codes", TelegraphDesk::codes);
        tell("words", TelegraphDesk::words);
        tell("groups", TelegraphDesk::groups);
        tell("counted", TelegraphDesk::counted);
        tell("cost", TelegraphDesk::cost);
        tell("saved", TelegraphDesk::saved);
        tell("sentGroups", TelegraphDesk::sentGroups);
        tell("repeats", TelegraphDesk::repeats);
        tell("lost", TelegraphDesk::lost);
        tell("earned", TelegraphDesk::earned);
        tell("untilGarbled", TelegraphDesk::untilGarbled);
        tell("wouldBeGarbled", TelegraphDesk::wouldBeGarbled);
        tell("repeatsIfSent", TelegraphDesk::repeatsIfSent);
        tell("qualityWanted", TelegraphDesk::qualityWanted);
        tell("uselessCode", TelegraphDesk::uselessCode);
        tell("bestNewCode(2)", asked -> asked.bestNewCode(2));
        tell("bestNewCode(3)", asked -> asked.bestNewCode(3));
        tell("bestNewCode(4)", asked -> asked.bestNewCode(4));
        tell("meanLength", TelegraphDesk::meanLength);
        tell("digest", TelegraphDesk::digest);
    }

    // One more than there are on each side: these are refused.
    private void tellEach(String name, int size, NumberCall call) {
        for (int number = -1; number <= size; number++) {
            int asked = number;
            tell(name + "(" + number + ")", office -> call.answer(office, asked));
        }
    }

    // The quality can only be asked by a change; it is set back at once.
    private void tellQuality() {
        int quality = desk.setQuality(1);
        text.append("quality ").append(quality).append('\n');
        desk.setQuality(quality);
    }

    private void tell(String name, Call call) {
        text.append(name).append(' ').append(said(desk, call)).append('\n');
    }
}
