import java.util.NoSuchElementException;

/** An interview study: houses are drawn, visited in daily rounds, checked, replaced and weighted. */
public final class Fieldbook {
    private static final int MAX_STRATA = 4;
    private static final int MAX_HOUSES = 24;
    private static final int MAX_INTERVIEWERS = 4;
    private static final int MAX_CALLS = 512;
    private static final int LANGUAGES = 3;
    private static final int ALL_LANGUAGES = 7;
    private static final int LAST_PLACE = 99;
    private static final int LAST_DAY = 99;
    private static final int LAST_ANSWER = 9;
    private static final int MIN_MINUTES = 30;
    private static final int MAX_MINUTES = 600;
    private static final int VISIT_MINUTES = 30;
    private static final int CHANCES = 65536;
    private static final int CHANCE_FACTOR = 1103;
    private static final int CHANCE_STEP = 12345;
    private static final int FAULTS_TO_BAR = 2;
    private static final int VISITS_TO_GIVE_UP = 3;
    private static final int REFUSALS_TO_LOSE = 2;
    private static final int DAYS_BEHIND_REFUSAL = 3;
    private static final int FULL_WEIGHT = 1000;
    private static final int FITTINGS = 3;
    private static final int NONE = -1;

    private static final char UNDRAWN = 'u';
    private static final char WANTED = 'w';
    private static final char ANSWERED = 'a';
    private static final char NOBODY = 'n';
    private static final char REFUSED = 'r';
    private static final char GIVEN_UP = 'g';
    private static final char EMPTY = 'e';
    private static final char CHECK = 'c';

    private final Frame frame = new Frame();
    private final House[] houses = new House[MAX_HOUSES];
    private final Interviewer[] interviewers = new Interviewer[MAX_INTERVIEWERS];
    private final Tally kept = new Tally();
    private final Tally anew = new Tally();
    private final History history = new History();
    private int interviewerCount = 0;
    private int chanceNumber = 1;
    private int today = 0;

    public Fieldbook() {
    }

    // ---- strata, houses, interviewers

    public int setChance(int chance) throws IllegalArgumentException {
        if (chance < 0 || chance >= CHANCES) {
            throw new IllegalArgumentException("the chance number is out of range");
        }
        int before = chanceNumber;
        chanceNumber = chance;
        return before;
    }

    public int addStratum() throws IllegalStateException {
        if (frame.strata >= MAX_STRATA) {
            throw new IllegalStateException("there are 4 strata");
        }
        int number = frame.strata;
        frame.strata++;
        return number;
    }

    public int addHouse(int stratum, int place, int language)
            throws IndexOutOfBoundsException, IllegalArgumentException, IllegalStateException {
        requireStratum(stratum);
        requirePlace(place);
        requireLanguage(language);
        if (frame.houses >= MAX_HOUSES) {
            throw new IllegalStateException("there are 24 houses");
        }
        int number = frame.houses;
        houses[number] = new House(place);
        frame.stratumOf[number] = stratum;
        frame.languageOf[number] = language;
        frame.houses++;
        return number;
    }

    public int addInterviewer(int home, int languages, int minutes)
            throws IllegalArgumentException, IllegalStateException {
        requirePlace(home);
        if (languages < 1 || languages > ALL_LANGUAGES) {
            throw new IllegalArgumentException("the set of languages is out of range");
        }
        if (minutes < MIN_MINUTES || minutes > MAX_MINUTES) {
            throw new IllegalArgumentException("the minutes are out of range");
        }
        if (interviewerCount >= MAX_INTERVIEWERS) {
            throw new IllegalStateException("there are 4 interviewers");
        }
        int number = interviewerCount;
        interviewers[number] = new Interviewer(home, languages, minutes);
        interviewerCount++;
        return number;
    }

    public int draw(int stratum, int houses)
            throws IndexOutOfBoundsException, IllegalArgumentException, IllegalStateException {
        requireStratum(stratum);
        if (houses < 1 || houses > MAX_HOUSES) {
            throw new IllegalArgumentException("the number of houses is out of range");
        }
        if (undrawnIn(stratum) < houses) {
            throw new IllegalStateException("fewer houses of the stratum are undrawn");
        }
        int last = NONE;
        for (int k = 0; k < houses; k++) {
            last = drawOne(stratum);
            frame.raiseTargets(last);
        }
        kept.fitTo(frame);
        return last;
    }

    // ---- rounds, visits, checks, days

    public int day() {
        return today;
    }

    public int roundSize(int interviewer) throws IndexOutOfBoundsException {
        return interviewerNumbered(interviewer).size;
    }

    public int roundAt(int interviewer, int index) throws IndexOutOfBoundsException, NoSuchElementException {
        Interviewer asked = interviewerNumbered(interviewer);
        if (index < 0 || index >= asked.size) {
            throw new NoSuchElementException("there is no such place in the round");
        }
        return asked.round[index];
    }

    public int roundMinutes(int interviewer) throws IndexOutOfBoundsException {
        return interviewerNumbered(interviewer).minutesInAll();
    }

    public int visit(int house, char outcome, int answer)
            throws IndexOutOfBoundsException, IllegalArgumentException, IllegalStateException {
        House visited = houseNumbered(house);
        requireOutcome(outcome);
        requireAnswer(answer);
        requireOpenVisit(visited);
        int interviewer = visited.roundOf;
        history.append(outcome, house, interviewer, answer);
        visited.toldToday = true;
        visited.visitsTold++;
        switch (outcome) {
            case ANSWERED:
                takeAnswer(house, interviewer, answer);
                break;
            case NOBODY:
                visited.meetNobody(today);
                break;
            case REFUSED:
                visited.refuse(interviewer, today);
                break;
            default:
                visited.lose(EMPTY);
                break;
        }
        return interviewer;
    }

    public boolean check(int house, int answer)
            throws IndexOutOfBoundsException, IllegalArgumentException, IllegalStateException {
        House asked = houseNumbered(house);
        requireAnswer(answer);
        if (asked.state != ANSWERED || asked.checked) {
            throw new IllegalStateException("the house has no answer that is unchecked");
        }
        history.append(CHECK, house, 0, answer);
        asked.checked = true;
        boolean same = kept.answers[house] == answer;
        if (kept.askAgain(house, answer)) {
            wantLostAnswersAgain();
            kept.fitTo(frame);
        }
        return same;
    }

    public int endDay() throws IllegalStateException {
        if (today >= LAST_DAY) {
            throw new IllegalStateException("the day is 99");
        }
        int replacements = replaceLostHouses();
        today++;
        makeRounds();
        return replacements;
    }

    // ---- houses and interviewers

    public char stateOf(int house) throws IndexOutOfBoundsException {
        return houseNumbered(house).state;
    }

    public int wantedFrom(int house) throws IndexOutOfBoundsException, IllegalStateException {
        House asked = houseNumbered(house);
        if (asked.state != WANTED) {
            throw new IllegalStateException("the house is not wanted");
        }
        return asked.wantedFromDay;
    }

    public int codeOf(int house) throws IndexOutOfBoundsException {
        House asked = houseNumbered(house);
        switch (asked.state) {
            case UNDRAWN:
                return 0;
            case WANTED:
                return 300 + asked.visitsTold;
            case ANSWERED:
                return asked.visitsTold == 1 ? 110 : 120;
            case REFUSED:
                return 210;
            case GIVEN_UP:
                return 220;
            default:
                return 400;
        }
    }

    public int answerOf(int house) throws IndexOutOfBoundsException, NoSuchElementException {
        requireAnswered(house);
        return kept.answers[house];
    }

    public int faults(int interviewer) throws IndexOutOfBoundsException {
        requireInterviewer(interviewer);
        return kept.faultsOf[interviewer];
    }

    public int answersTo(int interviewer) throws IndexOutOfBoundsException {
        requireInterviewer(interviewer);
        int count = 0;
        for (int house = 0; house < frame.houses; house++) {
            if (kept.answered[house] && kept.takenBy[house] == interviewer) {
                count++;
            }
        }
        return count;
    }

    // ---- weights and sums

    public int target(int stratum) throws IndexOutOfBoundsException {
        requireStratum(stratum);
        return frame.stratumTargets[stratum];
    }

    public int weight(int house) throws IndexOutOfBoundsException, NoSuchElementException {
        requireAnswered(house);
        return kept.weights[house];
    }

    public int weightAnew(int house) throws IndexOutOfBoundsException, NoSuchElementException {
        requireAnswered(house);
        weighAnew();
        return anew.weights[house];
    }

    public int weightOfLanguage(int language) throws IllegalArgumentException {
        requireLanguage(language);
        return kept.sumOfGroup(frame.languageOf, language, frame.houses);
    }

    public long weightedSum() {
        long sum = 0;
        for (int house = 0; house < frame.houses; house++) {
            if (kept.answered[house]) {
                sum += (long) kept.answers[house] * kept.weights[house];
            }
        }
        return sum;
    }

    public double weightedMean() throws ArithmeticException {
        long weights = sumOfWeights();
        if (weights == 0) {
            throw new ArithmeticException("the sum of the weights is 0");
        }
        return (double) weightedSum() / (double) weights;
    }

    public float rate() throws ArithmeticException {
        int answered = 0;
        int reachable = 0;
        for (int house = 0; house < frame.houses; house++) {
            char state = houses[house].state;
            if (state == ANSWERED) {
                answered++;
            }
            if (state != UNDRAWN && state != EMPTY) {
                reachable++;
            }
        }
        if (reachable == 0) {
            throw new ArithmeticException("no house was drawn that is not empty");
        }
        return (float) answered / (float) reachable;
    }

    public boolean isSound() {
        weighAnew();
        return kept.meetsStratumTargets(frame) && kept.hasWeightsOf(anew, frame.houses);
    }

    // ---- what the arguments must be

    private void requireStratum(int stratum) {
        if (stratum < 0 || stratum >= frame.strata) {
            throw new IndexOutOfBoundsException("there is no such stratum");
        }
    }

    private void requireInterviewer(int interviewer) {
        if (interviewer < 0 || interviewer >= interviewerCount) {
            throw new IndexOutOfBoundsException("there is no such interviewer");
        }
    }

    private void requirePlace(int place) {
        if (place < 0 || place > LAST_PLACE) {
            throw new IllegalArgumentException("the place is out of range");
        }
    }

    private void requireLanguage(int language) {
        if (language < 0 || language >= LANGUAGES) {
            throw new IllegalArgumentException("the language is out of range");
        }
    }

    private void requireOutcome(char outcome) {
        if (outcome != ANSWERED && outcome != NOBODY && outcome != REFUSED && outcome != EMPTY) {
            throw new IllegalArgumentException("there is no such outcome");
        }
    }

    private void requireAnswer(int answer) {
        if (answer < 0 || answer > LAST_ANSWER) {
            throw new IllegalArgumentException("the answer is out of range");
        }
    }

    private void requireOpenVisit(House visited) {
        if (visited.roundOf == NONE) {
            throw new IllegalStateException("the house is in no round of this day");
        }
        if (visited.toldToday) {
            throw new IllegalStateException("what came of the visit was told already");
        }
        if (kept.isBarred(visited.roundOf)) {
            throw new IllegalStateException("the interviewer is barred");
        }
    }

    private void requireAnswered(int house) {
        if (houseNumbered(house).state != ANSWERED) {
            throw new NoSuchElementException("the house has not answered");
        }
    }

    private House houseNumbered(int house) {
        if (house < 0 || house >= frame.houses) {
            throw new IndexOutOfBoundsException("there is no such house");
        }
        return houses[house];
    }

    private Interviewer interviewerNumbered(int interviewer) {
        requireInterviewer(interviewer);
        return interviewers[interviewer];
    }

    // ---- drawing

    private boolean isUndrawnIn(int house, int stratum) {
        return frame.stratumOf[house] == stratum && houses[house].state == UNDRAWN;
    }

    private int undrawnIn(int stratum) {
        int count = 0;
        for (int house = 0; house < frame.houses; house++) {
            if (isUndrawnIn(house, stratum)) {
                count++;
            }
        }
        return count;
    }

    /** Draws a house and returns its number; without an undrawn house it leaves the chance number alone. */
    private int drawOne(int stratum) {
        int undrawn = undrawnIn(stratum);
        if (undrawn == 0) {
            return NONE;
        }
        chanceNumber = (chanceNumber * CHANCE_FACTOR + CHANCE_STEP) % CHANCES;
        int before = chanceNumber % undrawn;
        for (int house = 0; house < frame.houses; house++) {
            if (isUndrawnIn(house, stratum)) {
                if (before == 0) {
                    houses[house].wantFrom(today + 1);
                    return house;
                }
                before--;
            }
        }
        return NONE;
    }

    private int replaceLostHouses() {
        int replacements = 0;
        for (int house = 0; house < frame.houses; house++) {
            if (houses[house].lostToday && drawOne(frame.stratumOf[house]) != NONE) {
                replacements++;
            }
        }
        return replacements;
    }

    // ---- making rounds

    private void makeRounds() {
        for (int house = 0; house < frame.houses; house++) {
            houses[house].beginDay();
        }
        for (int interviewer = 0; interviewer < interviewerCount; interviewer++) {
            interviewers[interviewer].beginRound();
            if (!kept.isBarred(interviewer)) {
                makeRound(interviewer);
            }
        }
    }

    private void makeRound(int interviewer) {
        Interviewer walker = interviewers[interviewer];
        for (int k = 0; k < frame.houses; k++) {
            int next = nearestFor(interviewer);
            if (next == NONE) {
                return;
            }
            walker.addToRound(next, houses[next].place);
            houses[next].roundOf = interviewer;
        }
    }

    private int nearestFor(int interviewer) {
        Interviewer walker = interviewers[interviewer];
        int nearest = NONE;
        int leastWay = 0;
        for (int house = 0; house < frame.houses; house++) {
            if (canAdd(house, interviewer)) {
                int way = walker.wayTo(houses[house].place);
                if (nearest == NONE || way < leastWay) {
                    nearest = house;
                    leastWay = way;
                }
            }
        }
        return nearest;
    }

    private boolean canAdd(int house, int interviewer) {
        House asked = houses[house];
        Interviewer walker = interviewers[interviewer];
        return asked.isFree(today)
                && !asked.hasRefused(interviewer)
                && walker.speaks(frame.languageOf[house])
                && walker.hasTimeFor(asked.place);
    }

    // ---- answers

    private void takeAnswer(int house, int interviewer, int answer) {
        houses[house].state = ANSWERED;
        houses[house].checked = false;
        kept.take(house, interviewer, answer);
        kept.fitTo(frame);
    }

    private void wantLostAnswersAgain() {
        for (int house = 0; house < frame.houses; house++) {
            if (houses[house].state == ANSWERED && !kept.answered[house]) {
                houses[house].wantFrom(today + 1);
            }
        }
    }

    private void weighAnew() {
        history.retell(anew);
        anew.fitTo(frame);
    }

    private long sumOfWeights() {
        long sum = 0;
        for (int house = 0; house < frame.houses; house++) {
            sum += kept.weights[house];
        }
        return sum;
    }

    /** What the weights are fitted to: the groups that the houses belong to, and their targets. */
    private static final class Frame {
        final int[] stratumOf = new int[MAX_HOUSES];
        final int[] languageOf = new int[MAX_HOUSES];
        final int[] stratumTargets = new int[MAX_STRATA];
        final int[] languageTargets = new int[LANGUAGES];
        int strata = 0;
        int houses = 0;

        void raiseTargets(int house) {
            if (house < 0 || house >= houses) {
                return;
            }
            stratumTargets[stratumOf[house]] += FULL_WEIGHT;
            languageTargets[languageOf[house]] += FULL_WEIGHT;
        }
    }

    /** A house and what came of the visits to it; its answer stands in the tally. */
    private static final class House {
        final int place;
        char state = UNDRAWN;
        int wantedFromDay = 0;
        int visitsTold = 0;
        int visitsToNobody = 0;
        int refusals = 0;
        int refusedInterviewers = 0;
        int roundOf = NONE;
        boolean toldToday = false;
        boolean lostToday = false;
        boolean checked = false;

        House(int place) {
            this.place = place;
        }

        void beginDay() {
            roundOf = NONE;
            toldToday = false;
            lostToday = false;
        }

        void wantFrom(int firstDay) {
            state = WANTED;
            wantedFromDay = firstDay;
        }

        void lose(char how) {
            state = how;
            lostToday = true;
        }

        void meetNobody(int today) {
            visitsToNobody++;
            if (visitsToNobody >= VISITS_TO_GIVE_UP) {
                lose(GIVEN_UP);
            } else {
                wantFrom(today + visitsToNobody);
            }
        }

        void refuse(int interviewer, int today) {
            refusals++;
            refusedInterviewers |= 1 << interviewer;
            if (refusals >= REFUSALS_TO_LOSE) {
                lose(REFUSED);
            } else {
                wantFrom(today + DAYS_BEHIND_REFUSAL);
            }
        }

        boolean hasRefused(int interviewer) {
            return (refusedInterviewers >> interviewer & 1) == 1;
        }

        boolean isFree(int today) {
            return state == WANTED && wantedFromDay <= today && roundOf == NONE;
        }
    }

    /** An interviewer with the round of this day. */
    private static final class Interviewer {
        final int home;
        final int languages;
        final int minutes;
        final int[] round = new int[MAX_HOUSES];
        int size = 0;
        int at;
        int minutesSoFar = 0;

        Interviewer(int home, int languages, int minutes) {
            this.home = home;
            this.languages = languages;
            this.minutes = minutes;
            this.at = home;
        }

        void beginRound() {
            size = 0;
            at = home;
            minutesSoFar = 0;
        }

        boolean speaks(int language) {
            return (languages >> language & 1) == 1;
        }

        int wayTo(int place) {
            return Math.abs(place - at);
        }

        boolean hasTimeFor(int place) {
            return minutesSoFar + Math.abs(place - at) + VISIT_MINUTES + Math.abs(place - home) <= minutes;
        }

        void addToRound(int house, int place) {
            if (size >= round.length) {
                return;
            }
            round[size] = house;
            size++;
            minutesSoFar += wayTo(place) + VISIT_MINUTES;
            at = place;
        }

        int minutesInAll() {
            return minutesSoFar + Math.abs(at - home);
        }
    }

    /** Which houses have answered, what and to whom, the faults of the interviewers, and the weights. */
    private static final class Tally {
        final boolean[] answered = new boolean[MAX_HOUSES];
        final int[] answers = new int[MAX_HOUSES];
        final int[] takenBy = new int[MAX_HOUSES];
        final int[] weights = new int[MAX_HOUSES];
        final int[] faultsOf = new int[MAX_INTERVIEWERS];

        void clear() {
            for (int house = 0; house < answered.length; house++) {
                answered[house] = false;
            }
            for (int interviewer = 0; interviewer < faultsOf.length; interviewer++) {
                faultsOf[interviewer] = 0;
            }
        }

        boolean isBarred(int interviewer) {
            return faultsOf[interviewer] >= FAULTS_TO_BAR;
        }

        void take(int house, int interviewer, int answer) {
            answered[house] = true;
            answers[house] = answer;
            takenBy[house] = interviewer;
        }

        /** Returns whether the interviewer who took the first answer is barred by this one. */
        boolean askAgain(int house, int answer) {
            if (!answered[house] || answers[house] == answer) {
                return false;
            }
            int interviewer = takenBy[house];
            faultsOf[interviewer]++;
            if (!isBarred(interviewer)) {
                return false;
            }
            dropAnswersTo(interviewer);
            return true;
        }

        private void dropAnswersTo(int interviewer) {
            for (int house = 0; house < answered.length; house++) {
                if (takenBy[house] == interviewer) {
                    answered[house] = false;
                }
            }
        }

        void fitTo(Frame frame) {
            for (int house = 0; house < weights.length; house++) {
                weights[house] = answered[house] ? FULL_WEIGHT : 0;
            }
            for (int k = 0; k < FITTINGS; k++) {
                fitGroups(frame.stratumOf, frame.stratumTargets, frame.houses);
                fitGroups(frame.languageOf, frame.languageTargets, frame.houses);
            }
            fitGroups(frame.stratumOf, frame.stratumTargets, frame.houses);
        }

        private void fitGroups(int[] groupOf, int[] targets, int houses) {
            for (int group = 0; group < targets.length; group++) {
                int members = membersOfGroup(groupOf, group, houses);
                if (members > 0) {
                    fitGroup(groupOf, group, targets[group], houses, members);
                }
            }
        }

        private void fitGroup(int[] groupOf, int group, int target, int houses, int members) {
            int sum = sumOfGroup(groupOf, group, houses);
            // Weights that are all 0 have no proportion to keep, so each one counts as 1.
            boolean allZero = sum <= 0;
            int divisor = allZero ? members : sum;
            if (divisor <= 0) {
                return;
            }
            int missing = target;
            for (int house = 0; house < houses; house++) {
                if (isInGroup(groupOf, group, house)) {
                    weights[house] = (allZero ? 1 : weights[house]) * target / divisor;
                    missing -= weights[house];
                }
            }
            spreadMissing(groupOf, group, houses, missing);
        }

        private void spreadMissing(int[] groupOf, int group, int houses, int missing) {
            int left = missing;
            for (int house = 0; house < houses && left > 0; house++) {
                if (isInGroup(groupOf, group, house)) {
                    weights[house]++;
                    left--;
                }
            }
        }

        private boolean isInGroup(int[] groupOf, int group, int house) {
            return answered[house] && groupOf[house] == group;
        }

        private int membersOfGroup(int[] groupOf, int group, int houses) {
            int count = 0;
            for (int house = 0; house < houses; house++) {
                if (isInGroup(groupOf, group, house)) {
                    count++;
                }
            }
            return count;
        }

        int sumOfGroup(int[] groupOf, int group, int houses) {
            int sum = 0;
            for (int house = 0; house < houses; house++) {
                if (isInGroup(groupOf, group, house)) {
                    sum += weights[house];
                }
            }
            return sum;
        }

        boolean meetsStratumTargets(Frame frame) {
            for (int stratum = 0; stratum < frame.strata; stratum++) {
                if (membersOfGroup(frame.stratumOf, stratum, frame.houses) > 0
                        && sumOfGroup(frame.stratumOf, stratum, frame.houses) != frame.stratumTargets[stratum]) {
                    return false;
                }
            }
            return true;
        }

        boolean hasWeightsOf(Tally other, int houses) {
            for (int house = 0; house < houses; house++) {
                if (answered[house] && weights[house] != other.weights[house]) {
                    return false;
                }
            }
            return true;
        }
    }

    /** All visits and checks that were told, in their order, each one packed into a number. */
    private static final class History {
        private static final int KIND_SHIFT = 16;
        private static final int INTERVIEWER_SHIFT = 12;
        private static final int HOUSE_SHIFT = 4;
        private static final int INTERVIEWER_MASK = 3;
        private static final int HOUSE_MASK = 31;
        private static final int ANSWER_MASK = 15;

        private final int[] events = new int[MAX_CALLS];
        private int size = 0;

        /** Behind the last call that the document speaks of there is no room, and none is needed. */
        void append(char kind, int house, int interviewer, int answer) {
            if (size >= events.length) {
                return;
            }
            events[size] = kind << KIND_SHIFT | interviewer << INTERVIEWER_SHIFT | house << HOUSE_SHIFT | answer;
            size++;
        }

        void retell(Tally tally) {
            tally.clear();
            for (int k = 0; k < size; k++) {
                retellOne(events[k], tally);
            }
        }

        private void retellOne(int event, Tally tally) {
            int kind = event >> KIND_SHIFT;
            int interviewer = event >> INTERVIEWER_SHIFT & INTERVIEWER_MASK;
            int house = event >> HOUSE_SHIFT & HOUSE_MASK;
            int answer = event & ANSWER_MASK;
            if (house >= MAX_HOUSES) {
                return;
            }
            if (kind == ANSWERED) {
                tally.take(house, interviewer, answer);
            } else if (kind == CHECK) {
                tally.askAgain(house, answer);
            }
        }
    }
}
