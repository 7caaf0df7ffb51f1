import java.util.ArrayList;
import java.util.List;

/**
 * The document's night and beds once more, told as lists and reckoned anew for every question:
 * slow, and with nothing in common with the class but the words of the document.
 */
final class Model {
    static final class Halt {
        int station, run, kilometres, stay, late, plannedArrival, plannedDeparture;
        int arrived, left;
        List<Integer> with = new ArrayList<>();
    }

    static final class Engine {
        int pulls, patience;
        List<Halt> halts = new ArrayList<>();
        int at, arrivesNext;
        List<Car> cars = new ArrayList<>();

        int indexOf(int station) {
            for (int i = 0; i < halts.size(); i++) {
                if (halts.get(i).station == station) {
                    return i;
                }
            }
            return -1;
        }
    }

    static final class Car {
        int number, station, land, kind, weight, brake, lands;
        boolean slides, out;
        List<int[]> parts = new ArrayList<>(); // the TRAIN, from, to
        int where, ready, done, changes;
    }

    static final class Guest {
        boolean woman;
        int age, party, paid;
        int[] bed = null; // the COACH, room, bed
    }

    final List<int[]> stations = new ArrayList<>(); // the land, the gauge
    final List<Engine> trains = new ArrayList<>();
    final List<Car> coaches = new ArrayList<>();
    final List<Guest> persons = new ArrayList<>();
    final int[][] debts = new int[6][6];
    /** How often a random run has met what a promise tells of: waits, sets out, and so on. */
    final int[] met = new int[8];

    private static void index(boolean ok) {
        if (!ok) {
            throw new IndexOutOfBoundsException();
        }
    }

    private static void range(int value, int low, int high) {
        if (value < low || value > high) {
            throw new IllegalArgumentException();
        }
    }

    private static void state(boolean ok) {
        if (!ok) {
            throw new IllegalStateException();
        }
    }

    private static void in(List<?> list, int number) {
        index(number >= 0 && number < list.size());
    }

    private void inTrain(int train, int stop) {
        in(trains, train);
        in(trains.get(train).halts, stop);
    }

    int station(int land, int gauge) {
        range(land, 0, 5);
        range(gauge, 0, 1);
        state(stations.size() < 10);
        stations.add(new int[] {land, gauge});
        return stations.size() - 1;
    }

    int train(int station, int departure, int pulls) {
        in(stations, station);
        range(departure, 0, 1439);
        range(pulls, 0, 1000);
        state(trains.size() < 6);
        Engine engine = new Engine();
        engine.pulls = pulls;
        Halt halt = new Halt();
        halt.station = station;
        halt.plannedDeparture = departure;
        engine.halts.add(halt);
        trains.add(engine);
        return trains.size() - 1;
    }

    int stop(int train, int station, int run, int kilometres, int stay) {
        in(trains, train);
        in(stations, station);
        range(run, 1, 300);
        range(kilometres, 1, 500);
        range(stay, 0, 60);
        List<Halt> halts = trains.get(train).halts;
        state(trains.get(train).indexOf(station) < 0 && halts.size() < 6);
        Halt halt = new Halt();
        halt.station = station;
        halt.run = run;
        halt.kilometres = kilometres;
        halt.stay = stay;
        halt.plannedArrival = halts.get(halts.size() - 1).plannedDeparture + run;
        halt.plannedDeparture = halt.plannedArrival + stay;
        halts.add(halt);
        return halts.size() - 1;
    }

    int patience(int train, int minutes) {
        in(trains, train);
        range(minutes, 0, 180);
        int before = trains.get(train).patience;
        trains.get(train).patience = minutes;
        return before;
    }

    int late(int train, int stop, int minutes) {
        inTrain(train, stop);
        index(stop != 0);
        range(minutes, 0, 300);
        int before = trains.get(train).halts.get(stop).late;
        trains.get(train).halts.get(stop).late = minutes;
        return before;
    }

    int coach(int station, int land, int kind, int weight, int brake, int lands, boolean slides) {
        in(stations, station);
        range(land, 0, 5);
        range(kind, 0, 2);
        range(weight, 20, 60);
        range(brake, 0, 80);
        range(lands, 0, 63);
        state(coaches.size() < 10);
        Car car = new Car();
        car.number = coaches.size();
        car.station = station;
        car.land = land;
        car.kind = kind;
        car.weight = weight;
        car.brake = brake;
        car.lands = lands;
        car.slides = slides;
        coaches.add(car);
        return car.number;
    }

    private static int endOf(Car car) {
        return car.parts.isEmpty() ? car.station : car.parts.get(car.parts.size() - 1)[2];
    }

    int part(int coach, int train, int to) {
        in(coaches, coach);
        in(trains, train);
        in(stations, to);
        Car car = coaches.get(coach);
        state(car.parts.size() < 3 && !car.out);
        int first = trains.get(train).indexOf(endOf(car));
        int second = trains.get(train).indexOf(to);
        state(first >= 0 && second > first);
        car.parts.add(new int[] {train, endOf(car), to});
        return car.parts.size();
    }

    int takeOut(int coach) {
        in(coaches, coach);
        Car old = coaches.get(coach);
        state(!old.out);
        old.out = true;
        int none = 0;
        for (Guest guest : persons) {
            if (guest.bed != null && guest.bed[0] == coach) {
                guest.bed = null;
                for (Car car : coaches) {
                    boolean fits = !car.out && car.kind >= old.kind && !car.parts.isEmpty() && !old.parts.isEmpty()
                            && car.parts.get(0)[0] == old.parts.get(0)[0]
                            && car.parts.get(0)[1] == old.parts.get(0)[1];
                    if (fits && guest.bed == null) {
                        guest.bed = bedFor(car.number, guest);
                    }
                }
                if (guest.bed == null) {
                    none++;
                    guest.paid += 50 * old.parts.size();
                }
            }
        }
        return none;
    }

    private int[] bedFor(int coach, Guest guest) {
        for (int room = 0; room < 6; room++) {
            List<Guest> all = new ArrayList<>();
            List<Integer> free = new ArrayList<>();
            for (int bed = 0; bed < 3; bed++) {
                int there = sleeper(coach, room, bed);
                if (there < 0) {
                    free.add(bed);
                } else {
                    all.add(persons.get(there));
                }
            }
            all.add(guest);
            if (!free.isEmpty() && agree(all)) {
                return new int[] {coach, room, free.get(guest.age >= 60 ? 0 : free.size() - 1)};
            }
        }
        return null;
    }

    private static boolean agree(List<Guest> all) {
        int women = 0;
        boolean oneParty = true;
        for (Guest guest : all) {
            women += guest.woman ? 1 : 0;
            oneParty &= guest.party == all.get(0).party;
        }
        return women == 0 || women == all.size() || oneParty;
    }

    int book(int coach, boolean isWoman, int age, int party) {
        in(coaches, coach);
        range(age, 0, 99);
        range(party, 0, 9);
        state(!coaches.get(coach).out && persons.size() < 40);
        Guest guest = new Guest();
        guest.woman = isWoman;
        guest.age = age;
        guest.party = party;
        guest.bed = bedFor(coach, guest);
        state(guest.bed != null);
        persons.add(guest);
        return persons.size() - 1;
    }

    int leave(int person) {
        in(persons, person);
        Guest guest = persons.get(person);
        state(guest.bed != null);
        int answer = 10 * guest.bed[1] + guest.bed[2];
        guest.bed = null;
        return answer;
    }

    int swap(int person, int other) {
        in(persons, person);
        in(persons, other);
        range(person == other ? 1 : 0, 0, 0);
        Guest one = persons.get(person);
        Guest two = persons.get(other);
        state(one.bed != null && two.bed != null);
        change(one, two);
        if (!agree(inRoomOf(one)) || !agree(inRoomOf(two))) {
            change(one, two);
            state(false);
        }
        return 0;
    }

    private static void change(Guest one, Guest two) {
        int[] bed = one.bed;
        one.bed = two.bed;
        two.bed = bed;
    }

    private List<Guest> inRoomOf(Guest guest) {
        List<Guest> all = new ArrayList<>();
        for (Guest other : persons) {
            if (other.bed != null && other.bed[0] == guest.bed[0] && other.bed[1] == guest.bed[1]) {
                all.add(other);
            }
        }
        return all;
    }

    private void night() {
        for (Engine engine : trains) {
            engine.at = 0;
            engine.arrivesNext = -1;
            engine.cars.clear();
            for (Halt halt : engine.halts) {
                halt.arrived = halt.left = -1;
                halt.with.clear();
            }
            engine.halts.get(0).arrived = 0;
        }
        for (Car car : coaches) {
            car.where = car.station;
            car.ready = car.done = car.changes = 0;
        }
        for (int[] row : debts) {
            java.util.Arrays.fill(row, 0);
        }
        for (int now = 0; now < 2000; now++) {
            for (Engine engine : trains) {
                if (engine.arrivesNext == now) {
                    arrive(engine, now);
                }
            }
            for (Engine engine : trains) {
                if (leavesNow(engine, now)) {
                    go(engine, now);
                }
            }
        }
    }

    private static void setOut(Car car, int station, int now) {
        car.where = station;
        car.ready = now + 10;
    }

    private static boolean isToDo(Car car) {
        return !car.out && car.done < car.parts.size();
    }

    private void arrive(Engine engine, int now) {
        engine.arrivesNext = -1;
        engine.at++;
        Halt halt = engine.halts.get(engine.at);
        halt.arrived = now;
        List<Car> stay = new ArrayList<>();
        for (Car car : engine.cars) {
            boolean there = isToDo(car) && car.parts.get(car.done)[2] == halt.station;
            if (there || engine.at == engine.halts.size() - 1) {
                setOut(car, halt.station, now);
                car.done += there ? 1 : 0;
                met[0]++;
            } else {
                stay.add(car);
            }
        }
        engine.cars = stay;
    }

    private boolean leavesNow(Engine engine, int now) {
        Halt halt = engine.halts.get(engine.at);
        boolean isThere = engine.arrivesNext < 0 && engine.at < engine.halts.size() - 1;
        if (!isThere || halt.plannedDeparture > now || engine.at > 0 && now - halt.arrived < halt.stay) {
            return false;
        }
        if (now - halt.plannedDeparture >= engine.patience) {
            return true;
        }
        for (Car car : coaches) {
            for (int i = car.done; i < car.parts.size() && !car.out; i++) {
                int[] part = car.parts.get(i);
                boolean isFromHere = trains.get(part[0]) == engine && part[1] == halt.station;
                if (isFromHere && !(car.done == i && car.where == halt.station && car.ready <= now)) {
                    met[1]++;
                    return false;
                }
            }
        }
        return true;
    }

    private boolean isAllowed(Car car, int[] here, int[] next) {
        return (car.lands & 1 << next[0]) != 0 && (car.slides || here[1] == next[1]);
    }

    private boolean comes(Engine engine, Car car, int station) {
        int[] part = car.parts.get(car.done);
        Engine own = trains.get(part[0]);
        if (engine.indexOf(part[2]) <= engine.at) {
            return false;
        }
        if (own == engine) {
            return true;
        }
        int there = own.indexOf(station);
        met[2] += there < 0 ? 1 : 0;
        met[3] += there >= 0 && own.halts.get(there).left >= 0 ? 1 : 0;
        return there < 0 || own.halts.get(there).left >= 0;
    }

    private void go(Engine engine, int now) {
        Halt halt = engine.halts.get(engine.at);
        Halt next = engine.halts.get(engine.at + 1);
        int[] here = stations.get(halt.station);
        int[] there = stations.get(next.station);
        List<Car> stay = new ArrayList<>();
        for (Car car : engine.cars) {
            if (isAllowed(car, here, there)) {
                stay.add(car);
            } else {
                setOut(car, halt.station, now);
                met[4]++;
            }
        }
        List<Car> all = new ArrayList<>(stay);
        for (Car car : coaches) {
            if (car.where == halt.station && car.ready <= now && isToDo(car) && isAllowed(car, here, there)
                    && comes(engine, car, halt.station)) {
                all.add(car);
                car.where = car.ready = -1;
            }
        }
        while (sum(all, true) > engine.pulls || 100 * (sum(all, false) + 60) < 65 * (sum(all, true) + 80)) {
            Car last = all.remove(all.size() - 1);
            setOut(last, halt.station, now);
            met[stay.contains(last) ? 5 : 6]++;
        }
        halt.left = now;
        engine.arrivesNext = now + next.run + next.late + (here[1] == there[1] ? 0 : 15);
        for (Car car : all) {
            halt.with.add(car.number);
            car.changes += stay.contains(car) ? 0 : 1;
            debts[car.land][there[0]] += car.land == there[0] ? 0 : 4 * next.kilometres;
            met[7]++;
        }
        engine.cars = all;
    }

    private static int sum(List<Car> cars, boolean weights) {
        int sum = 0;
        for (Car car : cars) {
            sum += weights ? car.weight : car.brake;
        }
        return sum;
    }

    int arrives(int train, int stop) {
        inTrain(train, stop);
        night();
        return trains.get(train).halts.get(stop).arrived;
    }

    int leaves(int train, int stop) {
        inTrain(train, stop);
        night();
        return trains.get(train).halts.get(stop).left;
    }

    int behind(int train, int stop, int place) {
        inTrain(train, stop);
        range(place, 0, 9);
        night();
        List<Integer> with = trains.get(train).halts.get(stop).with;
        return place < with.size() ? with.get(place) : -1;
    }

    float sheet(int train, int stop) {
        inTrain(train, stop);
        night();
        Halt halt = trains.get(train).halts.get(stop);
        List<Car> with = new ArrayList<>();
        for (int number : halt.with) {
            with.add(coaches.get(number));
        }
        return halt.left < 0 ? 0.0f : 100.0f * ((float) (sum(with, false) + 60) / (float) (sum(with, true) + 80));
    }

    int coachOf(int coach, int what) {
        in(coaches, coach);
        range(what, 0, 5);
        night();
        Car car = coaches.get(coach);
        int home = !car.parts.isEmpty() && car.done == car.parts.size() ? 1 : 0;
        return new int[] {car.where, car.ready, car.done, home, car.changes, car.out ? 1 : 0}[what];
    }

    int owes(int land, int other) {
        range(land, 0, 5);
        range(other, 0, 5);
        night();
        return debts[land][other];
    }

    int homes() {
        night();
        int homes = 0;
        for (Car car : coaches) {
            homes += !car.parts.isEmpty() && car.done == car.parts.size() ? 1 : 0;
        }
        return homes;
    }

    int best(int train) {
        in(trains, train);
        int before = trains.get(train).patience;
        int best = 0;
        int most = -1;
        for (int minutes = 0; minutes <= 180; minutes += 10) {
            trains.get(train).patience = minutes;
            int homes = homes();
            if (homes > most) {
                most = homes;
                best = minutes;
            }
        }
        trains.get(train).patience = before;
        return best;
    }

    int personOf(int person, int what) {
        in(persons, person);
        range(what, 0, 3);
        Guest guest = persons.get(person);
        return what == 3 ? guest.paid : guest.bed == null ? -1 : guest.bed[what];
    }

    int sleeper(int coach, int room, int bed) {
        in(coaches, coach);
        range(room, 0, 5);
        range(bed, 0, 2);
        for (int i = 0; i < persons.size(); i++) {
            int[] there = persons.get(i).bed;
            if (there != null && there[0] == coach && there[1] == room && there[2] == bed) {
                return i;
            }
        }
        return -1;
    }

    boolean holds(int coach, boolean isWoman, int party) {
        in(coaches, coach);
        range(party, 0, 9);
        Guest guest = new Guest();
        guest.woman = isWoman;
        guest.party = party;
        return bedFor(coach, guest) != null;
    }

    int paid() {
        int paid = 0;
        for (Guest guest : persons) {
            paid += guest.paid;
        }
        return paid;
    }
}
