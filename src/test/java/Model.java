import java.util.ArrayList;
import java.util.List;
import java.util.NoSuchElementException;
import java.util.TreeMap;
import java.util.function.ToIntFunction;
import java.util.stream.Collectors;

/** The document written once more, in another way and without any thought of cost. */
final class Model {
    private static final class Home {
        int number, stratum, place, language;
        char state = 'u';
        int from;
        boolean replaces, checked;
        int lostOn = -1;
        Integer answer;
        Guest taker;
        List<String> told = new ArrayList<>();
        List<Guest> refused = new ArrayList<>();
        int lastTold = -1;

        long told(char outcome) {
            return told.stream().filter(text -> text.charAt(0) == outcome).count();
        }
    }

    private static final class Guest {
        int number, home, languages, minutes, faults, roundTime;
        List<Home> round = new ArrayList<>();
    }

    private int chance = 1;
    private int day = 0;
    private int strata = 0;
    private final List<Home> homes = new ArrayList<>();
    private final List<Guest> guests = new ArrayList<>();

    int setChance(int next) {
        if (next < 0 || next > 65535) {
            throw new IllegalArgumentException();
        }
        int before = chance;
        chance = next;
        return before;
    }

    int addStratum() {
        if (strata == 4) {
            throw new IllegalStateException();
        }
        return strata++;
    }

    int addHouse(int stratum, int place, int language) {
        stratum(stratum);
        if (place < 0 || place > 99 || language < 0 || language > 2) {
            throw new IllegalArgumentException();
        }
        if (homes.size() == 24) {
            throw new IllegalStateException();
        }
        Home home = new Home();
        home.number = homes.size();
        home.stratum = stratum;
        home.place = place;
        home.language = language;
        homes.add(home);
        return home.number;
    }

    int addInterviewer(int home, int languages, int minutes) {
        if (home < 0 || home > 99 || languages < 1 || languages > 7 || minutes < 30 || minutes > 600) {
            throw new IllegalArgumentException();
        }
        if (guests.size() == 4) {
            throw new IllegalStateException();
        }
        Guest guest = new Guest();
        guest.number = guests.size();
        guest.home = home;
        guest.languages = languages;
        guest.minutes = minutes;
        guests.add(guest);
        return guest.number;
    }

    int draw(int stratum, int count) {
        stratum(stratum);
        if (count < 1 || count > 24) {
            throw new IllegalArgumentException();
        }
        if (undrawn(stratum).size() < count) {
            throw new IllegalStateException();
        }
        Home last = null;
        for (int k = 0; k < count; k++) {
            last = drawOne(stratum);
        }
        return last.number;
    }

    private List<Home> undrawn(int stratum) {
        return homes.stream().filter(home -> home.stratum == stratum && home.state == 'u')
                .collect(Collectors.toList());
    }

    private Home drawOne(int stratum) {
        List<Home> row = undrawn(stratum);
        chance = (chance * 1103 + 12345) & 0xffff;
        Home home = row.get(chance % row.size());
        home.state = 'w';
        home.from = day + 1;
        return home;
    }

    int day() {
        return day;
    }

    int roundSize(int number) {
        return guest(number).round.size();
    }

    int roundAt(int number, int index) {
        Guest guest = guest(number);
        if (index < 0 || index >= guest.round.size()) {
            throw new NoSuchElementException();
        }
        return guest.round.get(index).number;
    }

    int roundMinutes(int number) {
        return guest(number).roundTime;
    }

    int visit(int number, char outcome, int answer) {
        Home home = home(number);
        if ("anre".indexOf(outcome) < 0 || answer < 0 || answer > 9) {
            throw new IllegalArgumentException();
        }
        Guest guest = guests.stream().filter(one -> one.round.contains(home)).findFirst().orElse(null);
        if (guest == null || home.lastTold == day || guest.faults == 2) {
            throw new IllegalStateException();
        }
        home.lastTold = day;
        home.told.add("" + outcome);
        if (outcome == 'a') {
            home.state = 'a';
            home.answer = answer;
            home.taker = guest;
            home.checked = false;
        } else if (outcome == 'e') {
            lose(home, 'e');
        } else if (outcome == 'r') {
            home.refused.add(guest);
            home.from = day + 3;
            if (home.told('r') == 2) {
                lose(home, 'r');
            }
        } else {
            home.from = day + (int) home.told('n');
            if (home.told('n') == 3) {
                lose(home, 'g');
            }
        }
        return guest.number;
    }

    private void lose(Home home, char state) {
        home.state = state;
        home.lostOn = day;
    }

    boolean check(int number, int answer) {
        Home home = home(number);
        if (answer < 0 || answer > 9) {
            throw new IllegalArgumentException();
        }
        if (home.state != 'a' || home.checked) {
            throw new IllegalStateException();
        }
        home.checked = true;
        if (home.answer == answer) {
            return true;
        }
        Guest guest = home.taker;
        guest.faults++;
        if (guest.faults == 2) {
            for (Home each : homes) {
                if (each.state == 'a' && each.taker == guest) {
                    each.state = 'w';
                    each.from = day + 1;
                }
            }
        }
        return false;
    }

    int endDay() {
        if (day == 99) {
            throw new IllegalStateException();
        }
        int drawn = 0;
        for (Home home : homes) {
            if (home.lostOn == day && !undrawn(home.stratum).isEmpty()) {
                drawOne(home.stratum).replaces = true;
                drawn++;
            }
        }
        day++;
        for (Guest guest : guests) {
            guest.round = new ArrayList<>();
            guest.roundTime = 0;
        }
        for (Guest guest : guests) {
            if (guest.faults < 2) {
                makeRound(guest);
            }
        }
        return drawn;
    }

    private void makeRound(Guest guest) {
        while (true) {
            int at = guest.round.isEmpty() ? guest.home : guest.round.get(guest.round.size() - 1).place;
            Home best = null;
            for (Home home : homes) {
                boolean taken = guests.stream().anyMatch(one -> one.round.contains(home));
                if (home.state != 'w' || home.from > day || taken || home.refused.contains(guest)
                        || (guest.languages & 1 << home.language) == 0) {
                    continue;
                }
                List<Home> longer = new ArrayList<>(guest.round);
                longer.add(home);
                if (time(guest, longer) > guest.minutes) {
                    continue;
                }
                if (best == null || Math.abs(home.place - at) < Math.abs(best.place - at)) {
                    best = home;
                }
            }
            if (best == null) {
                return;
            }
            guest.round.add(best);
            guest.roundTime = time(guest, guest.round);
        }
    }

    private int time(Guest guest, List<Home> round) {
        int time = 0;
        int at = guest.home;
        for (Home home : round) {
            time += Math.abs(home.place - at) + 30;
            at = home.place;
        }
        return time + Math.abs(guest.home - at);
    }

    char stateOf(int number) {
        return home(number).state;
    }

    int wantedFrom(int number) {
        Home home = home(number);
        if (home.state != 'w') {
            throw new IllegalStateException();
        }
        return home.from;
    }

    int codeOf(int number) {
        Home home = home(number);
        switch (home.state) {
            case 'u': return 0;
            case 'w': return 300 + home.told.size();
            case 'a': return home.told.size() > 1 ? 120 : 110;
            case 'r': return 210;
            case 'g': return 220;
            default: return 400;
        }
    }

    int answerOf(int number) {
        return answered(number).answer;
    }

    int faults(int number) {
        return guest(number).faults;
    }

    int answersTo(int number) {
        Guest guest = guest(number);
        return (int) homes.stream().filter(home -> home.state == 'a' && home.taker == guest).count();
    }

    int target(int stratum) {
        stratum(stratum);
        return target(home -> home.stratum, stratum);
    }

    private int target(ToIntFunction<Home> group, int number) {
        return 1000 * (int) homes.stream()
                .filter(home -> home.state != 'u' && !home.replaces && group.applyAsInt(home) == number).count();
    }

    private TreeMap<Integer, Long> weights() {
        TreeMap<Integer, Long> weights = new TreeMap<>();
        for (Home home : homes) {
            if (home.state == 'a') {
                weights.put(home.number, 1000L);
            }
        }
        for (int k = 0; k < 7; k++) {
            ToIntFunction<Home> group = k % 2 == 0 ? home -> home.stratum : home -> home.language;
            for (int number = 0; number < 4; number++) {
                fit(weights, group, number);
            }
        }
        return weights;
    }

    private void fit(TreeMap<Integer, Long> weights, ToIntFunction<Home> group, int number) {
        List<Integer> members = weights.keySet().stream()
                .filter(house -> group.applyAsInt(homes.get(house)) == number).collect(Collectors.toList());
        if (members.isEmpty()) {
            return;
        }
        if (members.stream().allMatch(house -> weights.get(house) == 0)) {
            members.forEach(house -> weights.put(house, 1L));
        }
        long target = target(group, number);
        long sum = members.stream().mapToLong(weights::get).sum();
        members.forEach(house -> weights.put(house, weights.get(house) * target / sum));
        long missing = target - members.stream().mapToLong(weights::get).sum();
        for (int k = 0; k < missing; k++) {
            weights.merge(members.get(k), 1L, Long::sum);
        }
    }

    int weight(int number) {
        answered(number);
        return weights().get(number).intValue();
    }

    int weightOfLanguage(int language) {
        if (language < 0 || language > 2) {
            throw new IllegalArgumentException();
        }
        long sum = 0;
        TreeMap<Integer, Long> weights = weights();
        for (int house : weights.keySet()) {
            sum += homes.get(house).language == language ? weights.get(house) : 0;
        }
        return (int) sum;
    }

    long weightedSum() {
        TreeMap<Integer, Long> weights = weights();
        return weights.keySet().stream().mapToLong(house -> weights.get(house) * homes.get(house).answer).sum();
    }

    double weightedMean() {
        long sum = weights().values().stream().mapToLong(one -> one).sum();
        if (sum == 0) {
            throw new ArithmeticException();
        }
        return (double) weightedSum() / sum;
    }

    float rate() {
        long drawn = homes.stream().filter(home -> home.state != 'u' && home.state != 'e').count();
        if (drawn == 0) {
            throw new ArithmeticException();
        }
        return (float) homes.stream().filter(home -> home.state == 'a').count() / drawn;
    }

    private void stratum(int number) {
        if (number < 0 || number >= strata) {
            throw new IndexOutOfBoundsException();
        }
    }

    private Home home(int number) {
        if (number < 0 || number >= homes.size()) {
            throw new IndexOutOfBoundsException();
        }
        return homes.get(number);
    }

    private Home answered(int number) {
        Home home = home(number);
        if (home.state != 'a') {
            throw new NoSuchElementException();
        }
        return home;
    }

    private Guest guest(int number) {
        if (number < 0 || number >= guests.size()) {
            throw new IndexOutOfBoundsException();
        }
        return guests.get(number);
    }
}
