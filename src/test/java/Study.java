import java.util.ArrayList;
import java.util.List;
import java.util.function.Function;

/**
 * A Fieldbook that keeps the row of the calls that may change it, so that the same study can be made again. The
 * document speaks of 512 calls of an object: no test may rest on what a later call answers.
 */
final class Study {
    static final int MOST_CALLS = 512;

    private final Fieldbook book = new Fieldbook();
    private final List<Function<Fieldbook, Object>> told = new ArrayList<>();
    private int calls = 0;

    /** A new object that was told the same, and asked nothing. */
    Fieldbook again() {
        Fieldbook other = new Fieldbook();
        for (Function<Fieldbook, Object> call : told) {
            Expect.outcomeOf(() -> call.apply(other));
        }
        return other;
    }

    int callsToMakeItAgain() {
        return told.size();
    }

    int calls() {
        return calls;
    }

    private <T> T ask(Function<Fieldbook, T> call) {
        calls++;
        if (calls > MOST_CALLS) {
            throw new AssertionError("a test makes more than 512 calls of an object");
        }
        return call.apply(book);
    }

    private <T> T tell(Function<Fieldbook, T> call) {
        told.add(call::apply);
        return ask(call);
    }

    int setChance(int chance) {
        return tell(one -> one.setChance(chance));
    }

    int addStratum() {
        return tell(Fieldbook::addStratum);
    }

    int addHouse(int stratum, int place, int language) {
        return tell(one -> one.addHouse(stratum, place, language));
    }

    int addInterviewer(int home, int languages, int minutes) {
        return tell(one -> one.addInterviewer(home, languages, minutes));
    }

    int draw(int stratum, int houses) {
        return tell(one -> one.draw(stratum, houses));
    }

    int visit(int house, char outcome, int answer) {
        return tell(one -> one.visit(house, outcome, answer));
    }

    boolean check(int house, int answer) {
        return tell(one -> one.check(house, answer));
    }

    int endDay() {
        return tell(Fieldbook::endDay);
    }

    int day() {
        return ask(Fieldbook::day);
    }

    int roundSize(int interviewer) {
        return ask(one -> one.roundSize(interviewer));
    }

    int roundAt(int interviewer, int index) {
        return ask(one -> one.roundAt(interviewer, index));
    }

    int roundMinutes(int interviewer) {
        return ask(one -> one.roundMinutes(interviewer));
    }

    char stateOf(int house) {
        return ask(one -> one.stateOf(house));
    }

    int wantedFrom(int house) {
        return ask(one -> one.wantedFrom(house));
    }

    int codeOf(int house) {
        return ask(one -> one.codeOf(house));
    }

    int answerOf(int house) {
        return ask(one -> one.answerOf(house));
    }

    int faults(int interviewer) {
        return ask(one -> one.faults(interviewer));
    }

    int answersTo(int interviewer) {
        return ask(one -> one.answersTo(interviewer));
    }

    int target(int stratum) {
        return ask(one -> one.target(stratum));
    }

    int weight(int house) {
        return ask(one -> one.weight(house));
    }

    int weightAnew(int house) {
        return ask(one -> one.weightAnew(house));
    }

    int weightOfLanguage(int language) {
        return ask(one -> one.weightOfLanguage(language));
    }

    long weightedSum() {
        return ask(Fieldbook::weightedSum);
    }

    double weightedMean() {
        return ask(Fieldbook::weightedMean);
    }

    float rate() {
        return ask(Fieldbook::rate);
    }

    boolean isSound() {
        return ask(Fieldbook::isSound);
    }
}
