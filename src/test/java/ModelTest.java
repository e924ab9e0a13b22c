/** Runs of 512 calls, chosen by a fixed sequence of numbers, on the program and on the model. */
public final class ModelTest {
    private static final int RUNS = 1500;
    private static final int CALLS = 512;
    private static final String OUTCOMES = "aaaaannrrex";

    private long seed;
    private Fieldbook book;
    private Model model;
    private final StringBuilder states = new StringBuilder();

    public static void main(String[] args) {
        ModelTest test = new ModelTest();
        for (int run = 0; run < RUNS; run++) {
            test.run(run);
        }
        // A sequence that never came to one of these would show nothing about them.
        for (char state : "uwargeb0".toCharArray()) {
            Expect.same("runs come to " + state, test.states.indexOf("" + state) >= 0, true);
        }
        Expect.end();
    }

    private int next(int bound) {
        seed = seed * 6364136223846793005L + 1442695040888963407L;
        return (int) ((seed >>> 33) % bound);
    }

    private int oneOf(int low, int high) {
        return next(25) == 0 ? (next(2) == 0 ? low - 1 : high + 1) : low + next(high - low + 1);
    }

    private void compare(String call, Expect.Call ofBook, Expect.Call ofModel) {
        Expect.same(call, Expect.outcomeOf(ofBook), Expect.outcomeOf(ofModel));
    }

    private void run(int run) {
        seed = run;
        book = new Fieldbook();
        model = new Model();
        int begin = 20 + next(40);
        for (int call = 0; call < CALLS; call++) {
            String name = "run " + run + " call " + call;
            if (call < begin) {
                setUp(name);
            } else {
                work(name);
            }
        }
        for (int house = 0; house < 24; house++) {
            Object state = stateOf(house);
            note(state instanceof Character ? (Character) state : 'u');
        }
        for (int interviewer = 0; interviewer < 4; interviewer++) {
            int asked = interviewer;
            note(Integer.valueOf(2).equals(Expect.outcomeOf(() -> model.faults(asked))) ? 'b' : 'w');
        }
    }

    private Object stateOf(int house) {
        return Expect.outcomeOf(() -> model.stateOf(house));
    }

    private void note(char what) {
        if (states.indexOf("" + what) < 0) {
            states.append(what);
        }
    }

    private void setUp(String name) {
        int stratum = oneOf(0, 3);
        int place = oneOf(0, 99);
        int language = oneOf(0, 2);
        int languages = next(2) == 0 ? 7 : oneOf(1, 7);
        int minutes = next(2) == 0 ? oneOf(300, 600) : oneOf(30, 600);
        int count = next(8) == 0 ? oneOf(1, 24) : 1 + next(4);
        switch (next(8)) {
            case 0:
                compare(name + " addStratum", () -> book.addStratum(), () -> model.addStratum());
                break;
            case 1:
                compare(name + " addInterviewer", () -> book.addInterviewer(place, languages, minutes),
                        () -> model.addInterviewer(place, languages, minutes));
                break;
            case 2:
                compare(name + " draw", () -> book.draw(stratum, count), () -> model.draw(stratum, count));
                break;
            default:
                compare(name + " addHouse", () -> book.addHouse(stratum, place, language),
                        () -> model.addHouse(stratum, place, language));
                break;
        }
    }

    private void work(String name) {
        int kind = next(100);
        if (kind < 2) {
            setUp(name);
        } else if (kind < 4) {
            int chance = oneOf(0, 65535);
            compare(name + " setChance", () -> book.setChance(chance), () -> model.setChance(chance));
        } else if (kind < 8) {
            int stratum = oneOf(0, 3);
            int count = 1 + next(3);
            compare(name + " draw", () -> book.draw(stratum, count), () -> model.draw(stratum, count));
        } else if (kind < 22) {
            compare(name + " endDay", () -> book.endDay(), () -> model.endDay());
        } else if (kind < 60) {
            int house = houseToVisit();
            char outcome = OUTCOMES.charAt(next(OUTCOMES.length()));
            int answer = oneOf(0, 9);
            compare(name + " visit", () -> book.visit(house, outcome, answer),
                    () -> model.visit(house, outcome, answer));
        } else if (kind < 68) {
            int house = oneOf(0, 23);
            int answer = next(3) == 0 ? oneOf(0, 9) : answerOf(house);
            compare(name + " check", () -> book.check(house, answer), () -> model.check(house, answer));
        } else {
            ask(name);
        }
    }

    private int houseToVisit() {
        int interviewer = next(4);
        int index = next(6);
        Object house = Expect.outcomeOf(() -> model.roundAt(interviewer, index));
        return house instanceof Integer ? (Integer) house : oneOf(0, 23);
    }

    private int answerOf(int house) {
        Object answer = Expect.outcomeOf(() -> model.answerOf(house));
        return answer instanceof Integer ? (Integer) answer : 0;
    }

    private void ask(String name) {
        int house = oneOf(0, 23);
        int interviewer = oneOf(0, 3);
        int index = oneOf(0, 5);
        int group = oneOf(0, 2);
        compare(name + " day", () -> book.day(), () -> model.day());
        compare(name + " roundSize", () -> book.roundSize(interviewer), () -> model.roundSize(interviewer));
        compare(name + " roundAt", () -> book.roundAt(interviewer, index), () -> model.roundAt(interviewer, index));
        compare(name + " roundMinutes", () -> book.roundMinutes(interviewer),
                () -> model.roundMinutes(interviewer));
        compare(name + " stateOf", () -> book.stateOf(house), () -> model.stateOf(house));
        compare(name + " wantedFrom", () -> book.wantedFrom(house), () -> model.wantedFrom(house));
        compare(name + " codeOf", () -> book.codeOf(house), () -> model.codeOf(house));
        compare(name + " answerOf", () -> book.answerOf(house), () -> model.answerOf(house));
        compare(name + " faults", () -> book.faults(interviewer), () -> model.faults(interviewer));
        compare(name + " answersTo", () -> book.answersTo(interviewer), () -> model.answersTo(interviewer));
        compare(name + " target", () -> book.target(group), () -> model.target(group));
        compare(name + " weight", () -> book.weight(house), () -> model.weight(house));
        compare(name + " weightAnew", () -> book.weightAnew(house), () -> model.weight(house));
        compare(name + " weightOfLanguage", () -> book.weightOfLanguage(group),
                () -> model.weightOfLanguage(group));
        compare(name + " weightedSum", () -> book.weightedSum(), () -> model.weightedSum());
        compare(name + " weightedMean", () -> book.weightedMean(), () -> model.weightedMean());
        compare(name + " rate", () -> book.rate(), () -> model.rate());
        compare(name + " isSound", () -> book.isSound(), () -> true);
        Object weight = Expect.outcomeOf(() -> model.weight(house));
        if (Integer.valueOf(0).equals(weight)) {
            note('0');
        }
    }
}
