/** Runs of 512 calls, chosen by a fixed sequence of numbers, on the program and on the model. */
public final class ModelTest {
    private static final int RUNS = 5000;
    private static final int CALLS = 512;
    private static final String OUTCOMES = "aaaaannrrex";

    private long seed;
    private int calls;
    private String name;
    private Fieldbook book;
    private Model model;
    private final StringBuilder states = new StringBuilder();

    public static void main(String[] args) {
        ModelTest test = new ModelTest();
        for (int run = 0; run < RUNS; run++) {
            test.run(run);
        }
        // A sequence that never came to one of these would show nothing about them.
        for (char state : "uwargeb0".toCharArray()) {
            Expect.same("runs come to " + state, test.states.indexOf("" + state) >= 0, true);
        }
        Expect.end();
    }

    private int next(int bound) {
        seed = seed * 6364136223846793005L + 1442695040888963407L;
        return (int) ((seed >>> 33) % bound);
    }

    private int oneOf(int low, int high) {
        return next(25) == 0 ? (next(2) == 0 ? low - 1 : high + 1) : low + next(high - low + 1);
    }

    /** What an object answers behind its 512th call is free, so no more are made of it. */
    private void compare(String call, Expect.Call ofBook, Expect.Call ofModel) {
        if (calls < CALLS) {
            calls++;
            Expect.same(name + " " + call, Expect.outcomeOf(ofBook), Expect.outcomeOf(ofModel));
        }
    }

    private void run(int run) {
        seed = run;
        calls = 0;
        book = new Fieldbook();
        model = new Model();
        int begin = 20 + next(40);
        // Runs that ask little come far; runs that ask much see each step.
        int asks = next(3) == 0 ? 60 : 15;
        while (calls < CALLS) {
            name = "run " + run + " call " + calls;
            if (calls < begin) {
                setUp();
            } else if (next(100) < asks) {
                ask();
            } else {
                work();
            }
        }
        noteStates();
    }

    private void noteStates() {
        for (int house = 0; house < 24; house++) {
            int asked = house;
            Object state = Expect.outcomeOf(() -> model.stateOf(asked));
            note(state instanceof Character ? (Character) state : 'u');
        }
        for (int interviewer = 0; interviewer < 4; interviewer++) {
            int asked = interviewer;
            note(Integer.valueOf(2).equals(Expect.outcomeOf(() -> model.faults(asked))) ? 'b' : 'w');
        }
    }

    private void note(char what) {
        if (states.indexOf("" + what) < 0) {
            states.append(what);
        }
    }

    private void setUp() {
        int stratum = oneOf(0, 3);
        int place = oneOf(0, 99);
        int language = oneOf(0, 2);
        int languages = next(2) == 0 ? 7 : oneOf(1, 7);
        int minutes = next(2) == 0 ? oneOf(300, 600) : oneOf(30, 600);
        int count = next(8) == 0 ? oneOf(1, 24) : 1 + next(4);
        switch (next(8)) {
            case 0:
                compare("addStratum", () -> book.addStratum(), () -> model.addStratum());
                break;
            case 1:
                compare("addInterviewer", () -> book.addInterviewer(place, languages, minutes),
                        () -> model.addInterviewer(place, languages, minutes));
                break;
            case 2:
                compare("draw", () -> book.draw(stratum, count), () -> model.draw(stratum, count));
                break;
            default:
                compare("addHouse", () -> book.addHouse(stratum, place, language),
                        () -> model.addHouse(stratum, place, language));
                break;
        }
    }

    private void work() {
        int kind = next(68);
        if (kind < 2) {
            setUp();
        } else if (kind < 4) {
            int chance = oneOf(0, 65535);
            compare("setChance", () -> book.setChance(chance), () -> model.setChance(chance));
        } else if (kind < 8) {
            int stratum = oneOf(0, 3);
            int count = 1 + next(3);
            compare("draw", () -> book.draw(stratum, count), () -> model.draw(stratum, count));
        } else if (kind < 22) {
            compare("endDay", () -> book.endDay(), () -> model.endDay());
        } else if (kind < 60) {
            int house = houseToVisit();
            char outcome = OUTCOMES.charAt(next(OUTCOMES.length()));
            int answer = oneOf(0, 9);
            compare("visit", () -> book.visit(house, outcome, answer), () -> model.visit(house, outcome, answer));
        } else {
            int house = oneOf(0, 23);
            int answer = next(3) == 0 ? oneOf(0, 9) : answerOf(house);
            compare("check", () -> book.check(house, answer), () -> model.check(house, answer));
        }
    }

    private int houseToVisit() {
        int interviewer = next(4);
        int index = next(6);
        Object house = Expect.outcomeOf(() -> model.roundAt(interviewer, index));
        return house instanceof Integer ? (Integer) house : oneOf(0, 23);
    }

    private int answerOf(int house) {
        Object answer = Expect.outcomeOf(() -> model.answerOf(house));
        return answer instanceof Integer ? (Integer) answer : 0;
    }

    private void ask() {
        switch (next(3)) {
            case 0:
                askRounds(oneOf(0, 3), oneOf(0, 5));
                break;
            case 1:
                askHouse(oneOf(0, 23));
                break;
            default:
                askSums(oneOf(0, 3), oneOf(0, 2));
                break;
        }
    }

    private void askRounds(int interviewer, int index) {
        compare("day", () -> book.day(), () -> model.day());
        compare("roundSize", () -> book.roundSize(interviewer), () -> model.roundSize(interviewer));
        compare("roundAt", () -> book.roundAt(interviewer, index), () -> model.roundAt(interviewer, index));
        compare("roundMinutes", () -> book.roundMinutes(interviewer), () -> model.roundMinutes(interviewer));
        compare("faults", () -> book.faults(interviewer), () -> model.faults(interviewer));
        compare("answersTo", () -> book.answersTo(interviewer), () -> model.answersTo(interviewer));
    }

    private void askHouse(int house) {
        compare("stateOf", () -> book.stateOf(house), () -> model.stateOf(house));
        compare("wantedFrom", () -> book.wantedFrom(house), () -> model.wantedFrom(house));
        compare("codeOf", () -> book.codeOf(house), () -> model.codeOf(house));
        compare("answerOf", () -> book.answerOf(house), () -> model.answerOf(house));
        compare("weight", () -> book.weight(house), () -> model.weight(house));
        compare("weightAnew", () -> book.weightAnew(house), () -> model.weight(house));
        if (Integer.valueOf(0).equals(Expect.outcomeOf(() -> model.weight(house)))) {
            note('0');
        }
    }

    private void askSums(int stratum, int language) {
        compare("target", () -> book.target(stratum), () -> model.target(stratum));
        compare("weightOfLanguage", () -> book.weightOfLanguage(language), () -> model.weightOfLanguage(language));
        compare("weightedSum", () -> book.weightedSum(), () -> model.weightedSum());
        compare("weightedMean", () -> book.weightedMean(), () -> model.weightedMean());
        compare("rate", () -> book.rate(), () -> model.rate());
        compare("isSound", () -> book.isSound(), () -> true);
    }
}
