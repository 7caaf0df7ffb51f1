import java.util.Arrays;

/** Sleeping cars that change trains by night. */
public final class Throughcoach {
    public static final int NONE = -1;
    public static final int SEATS = 0, BEDS = 1, ROOMS = 2;

    private static final int STATION_LIMIT = 10;
    private static final int TRAIN_LIMIT = 6;
    private static final int STOP_LIMIT = 6;
    private static final int COACH_LIMIT = 10;
    private static final int PART_LIMIT = 3;
    private static final int PERSON_LIMIT = 40;
    private static final int LANDS = 6;
    private static final int ROOMS_OF_A_COACH = 6;
    private static final int BEDS_OF_A_ROOM = 3;

    private static final int MINUTES = 2000;
    /** Behind every minute that a night can reach. */
    private static final int NEVER = 1_000_000;
    private static final int UNTIL_READY = 10;
    private static final int GAUGE_CHANGE = 15;
    private static final int AXLES = 4;
    private static final int ENGINE_BRAKE = 60;
    private static final int ENGINE_WEIGHT = 80;
    private static final int LEAST_PERCENT = 65;
    private static final int MOST_PATIENCE = 180;
    private static final int PATIENCE_STEP = 10;
    private static final int LOW_BED_AGE = 60;
    private static final int PAID_FOR_A_PART = 50;

    private final Plan plan;
    private final Night night;
    private final Night nightAnew;
    private final Night trial;
    private final Beds beds;

    public Throughcoach() {
        plan = new Plan();
        night = new Night(plan);
        nightAnew = new Night(plan);
        trial = new Night(plan);
        beds = new Beds();
    }

    // ---- what is told

    public int station(int land, int gauge) throws IllegalArgumentException, IllegalStateException {
        needRange(land, 0, LANDS - 1);
        needRange(gauge, 0, 1);
        if (plan.stationCount >= STATION_LIMIT) {
            throw new IllegalStateException("there are 10 STATIONS");
        }
        return plan.addStation(land, gauge);
    }

    public int train(int station, int departure, int pulls)
            throws IndexOutOfBoundsException, IllegalArgumentException, IllegalStateException {
        needStation(station);
        needRange(departure, 0, 1439);
        needRange(pulls, 0, 1000);
        if (plan.trainCount >= TRAIN_LIMIT) {
            throw new IllegalStateException("there are 6 TRAINS");
        }
        return plan.addTrain(station, departure, pulls);
    }

    public int stop(int train, int station, int run, int kilometres, int stay)
            throws IndexOutOfBoundsException, IllegalArgumentException, IllegalStateException {
        needTrain(train);
        needStation(station);
        needRange(run, 1, 300);
        needRange(kilometres, 1, 500);
        needRange(stay, 0, 60);
        Train told = plan.trains[train];
        if (told.stopOf[station] != NONE || told.stops < 1 || told.stops >= STOP_LIMIT) {
            throw new IllegalStateException("the TRAIN has a STOP there, or 6");
        }
        plan.version++;
        return told.addStop(station, run, kilometres, stay);
    }

    public int patience(int train, int minutes) throws IndexOutOfBoundsException, IllegalArgumentException {
        needTrain(train);
        needRange(minutes, 0, MOST_PATIENCE);
        Train told = plan.trains[train];
        int before = told.patience;
        told.patience = minutes;
        plan.version++;
        return before;
    }

    public int late(int train, int stop, int minutes) throws IndexOutOfBoundsException, IllegalArgumentException {
        needStop(train, stop);
        if (stop == 0) {
            throw new IndexOutOfBoundsException("no run leads to the STOP 0");
        }
        needRange(minutes, 0, 300);
        Train told = plan.trains[train];
        int before = told.late[stop];
        told.late[stop] = minutes;
        plan.version++;
        return before;
    }

    public int coach(int station, int land, int kind, int weight, int brake, int lands, boolean slides)
            throws IndexOutOfBoundsException, IllegalArgumentException, IllegalStateException {
        needStation(station);
        needRange(land, 0, LANDS - 1);
        needRange(kind, SEATS, ROOMS);
        needRange(weight, 20, 60);
        needRange(brake, 0, 80);
        needRange(lands, 0, 63);
        if (plan.coachCount >= COACH_LIMIT) {
            throw new IllegalStateException("there are 10 COACHES");
        }
        Coach told = plan.nextCoach();
        told.station = station;
        told.land = land;
        told.kind = kind;
        told.weight = weight;
        told.brake = brake;
        told.lands = lands;
        told.slides = slides;
        return told.number;
    }

    public int part(int coach, int train, int to) throws IndexOutOfBoundsException, IllegalStateException {
        needCoach(coach);
        needTrain(train);
        needStation(to);
        Coach told = plan.coaches[coach];
        if (told.parts >= PART_LIMIT || told.isOut) {
            throw new IllegalStateException("the COACH has 3 PARTS or was taken out");
        }
        int from = told.end();
        if (!plan.trains[train].leads(from, to)) {
            throw new IllegalStateException("the TRAIN does not lead from there to there");
        }
        plan.version++;
        return told.addPart(train, from, to);
    }

    public int takeOut(int coach) throws IndexOutOfBoundsException, IllegalStateException {
        needCoach(coach);
        Coach told = plan.coaches[coach];
        if (told.isOut) {
            throw new IllegalStateException("the COACH was taken out");
        }
        told.isOut = true;
        plan.version++;
        return moveSleepers(told);
    }

    // ---- PERSONS

    public int book(int coach, boolean isWoman, int age, int party)
            throws IndexOutOfBoundsException, IllegalArgumentException, IllegalStateException {
        needCoach(coach);
        needRange(age, 0, 99);
        needRange(party, 0, 9);
        if (plan.coaches[coach].isOut || beds.personCount >= PERSON_LIMIT) {
            throw new IllegalStateException("the COACH was taken out, or there are 40 PERSONS");
        }
        int room = beds.roomFor(coach, isWoman, party);
        if (room == NONE) {
            throw new IllegalStateException("no room of the COACH has place");
        }
        Person person = beds.nextPerson();
        person.isWoman = isWoman;
        person.age = age;
        person.party = party;
        beds.place(person, coach, room);
        return person.number;
    }

    public int leave(int person) throws IndexOutOfBoundsException, IllegalStateException {
        needPerson(person);
        Person sleeping = beds.persons[person];
        if (sleeping.coach == NONE) {
            throw new IllegalStateException("the PERSON sleeps nowhere");
        }
        int answer = 10 * sleeping.room + sleeping.bed;
        beds.free(sleeping);
        return answer;
    }

    public void swap(int person, int other)
            throws IndexOutOfBoundsException, IllegalArgumentException, IllegalStateException {
        needPerson(person);
        needPerson(other);
        if (person == other) {
            throw new IllegalArgumentException("both are the same");
        }
        if (!beds.mayChange(beds.persons[person], beds.persons[other])) {
            throw new IllegalStateException("one sleeps nowhere, or a room might not hold the other");
        }
        beds.change(beds.persons[person], beds.persons[other]);
    }

    // ---- what is asked of the night

    public int arrives(int train, int stop) throws IndexOutOfBoundsException {
        needStop(train, stop);
        night.reckonByMinutes();
        return night.runs[train].arrived[stop];
    }

    public int leaves(int train, int stop) throws IndexOutOfBoundsException {
        needStop(train, stop);
        night.reckonByMinutes();
        return night.runs[train].left[stop];
    }

    public int leavesAnew(int train, int stop) throws IndexOutOfBoundsException {
        needStop(train, stop);
        nightAnew.reckonByEvents();
        return nightAnew.runs[train].left[stop];
    }

    public int behind(int train, int stop, int place) throws IndexOutOfBoundsException, IllegalArgumentException {
        needStop(train, stop);
        needRange(place, 0, COACH_LIMIT - 1);
        night.reckonByMinutes();
        return night.runs[train].behind[COACH_LIMIT * stop + place];
    }

    public float sheet(int train, int stop) throws IndexOutOfBoundsException {
        needStop(train, stop);
        night.reckonByMinutes();
        return night.runs[train].sheets[stop];
    }

    public int coachOf(int coach, int what) throws IndexOutOfBoundsException, IllegalArgumentException {
        needCoach(coach);
        needRange(what, 0, 5);
        night.reckonByMinutes();
        Wagon wagon = night.wagons[coach];
        switch (what) {
            case 0:
                return wagon.station;
            case 1:
                return wagon.ready;
            case 2:
                return wagon.done;
            case 3:
                return wagon.isHome() ? 1 : 0;
            case 4:
                return wagon.changes;
            default:
                return plan.coaches[coach].isOut ? 1 : 0;
        }
    }

    public int owes(int land, int other) throws IllegalArgumentException {
        needRange(land, 0, LANDS - 1);
        needRange(other, 0, LANDS - 1);
        night.reckonByMinutes();
        return night.owed[LANDS * land + other];
    }

    public int homes() {
        night.reckonByMinutes();
        return night.countHomes();
    }

    public int best(int train) throws IndexOutOfBoundsException {
        needTrain(train);
        int best = 0;
        int most = NONE;
        for (int minutes = 0; minutes <= MOST_PATIENCE; minutes += PATIENCE_STEP) {
            int homes = trial.homesWith(train, minutes);
            if (homes > most) {
                most = homes;
                best = minutes;
            }
        }
        return best;
    }

    // ---- what is asked of PERSONS

    public int personOf(int person, int what) throws IndexOutOfBoundsException, IllegalArgumentException {
        needPerson(person);
        needRange(what, 0, 3);
        Person asked = beds.persons[person];
        switch (what) {
            case 0:
                return asked.coach;
            case 1:
                return asked.room;
            case 2:
                return asked.bed;
            default:
                return asked.paid;
        }
    }

    public int sleeper(int coach, int room, int bed) throws IndexOutOfBoundsException, IllegalArgumentException {
        needCoach(coach);
        needRange(room, 0, ROOMS_OF_A_COACH - 1);
        needRange(bed, 0, BEDS_OF_A_ROOM - 1);
        return beds.sleepers[Beds.index(coach, room, bed)];
    }

    public boolean holds(int coach, boolean isWoman, int party)
            throws IndexOutOfBoundsException, IllegalArgumentException {
        needCoach(coach);
        needRange(party, 0, 9);
        return beds.roomFor(coach, isWoman, party) != NONE;
    }

    public int paid() {
        return beds.paid;
    }

    // ---- what the calls need

    private void needStation(int station) {
        if (station < 0 || station >= plan.stationCount) {
            throw new IndexOutOfBoundsException("no such STATION");
        }
    }

    private void needTrain(int train) {
        if (train < 0 || train >= plan.trainCount) {
            throw new IndexOutOfBoundsException("no such TRAIN");
        }
    }

    private void needStop(int train, int stop) {
        needTrain(train);
        if (stop < 0 || stop >= plan.trains[train].stops) {
            throw new IndexOutOfBoundsException("no such STOP");
        }
    }

    private void needCoach(int coach) {
        if (coach < 0 || coach >= plan.coachCount) {
            throw new IndexOutOfBoundsException("no such COACH");
        }
    }

    private void needPerson(int person) {
        if (person < 0 || person >= beds.personCount) {
            throw new IndexOutOfBoundsException("no such PERSON");
        }
    }

    private static void needRange(int value, int least, int most) {
        if (value < least || value > most) {
            throw new IllegalArgumentException("an argument is out of range");
        }
    }

    // ---- a COACH is taken out

    /** Returns how many find no other COACH. */
    private int moveSleepers(Coach old) {
        int lost = 0;
        for (int i = 0; i < beds.personCount; i++) {
            Person person = beds.persons[i];
            if (person.coach == old.number) {
                beds.free(person);
                if (!moves(person, old)) {
                    beds.pay(person, PAID_FOR_A_PART * old.parts);
                    lost++;
                }
            }
        }
        return lost;
    }

    private boolean moves(Person person, Coach old) {
        for (int i = 0; i < plan.coachCount; i++) {
            if (plan.coaches[i].mayReplace(old)) {
                int room = beds.roomFor(i, person.isWoman, person.party);
                if (room != NONE) {
                    beds.place(person, i, room);
                    return true;
                }
            }
        }
        return false;
    }

    private static final class Station {
        int land;
        int gauge;
    }

    private static final class Train {
        int stops = 0;
        int pulls;
        int patience = 0;
        final int[] station = new int[STOP_LIMIT];
        final int[] departure = new int[STOP_LIMIT];
        final int[] run = new int[STOP_LIMIT];
        final int[] late = new int[STOP_LIMIT];
        final int[] kilometres = new int[STOP_LIMIT];
        final int[] stay = new int[STOP_LIMIT];
        /** By STATIONS: the number of the STOP there, or NONE. */
        final int[] stopOf = new int[STATION_LIMIT];

        Train() {
            Arrays.fill(stopOf, NONE);
        }

        /** Only for a TRAIN that has a STOP, and not all that it may have. */
        int addStop(int where, int minutes, int length, int rest) {
            int number = stops;
            station[number] = where;
            run[number] = minutes;
            kilometres[number] = length;
            stay[number] = rest;
            departure[number] = departure[number - 1] + minutes + rest;
            stopOf[where] = number;
            stops = number + 1;
            return number;
        }

        boolean leads(int from, int to) {
            return stopOf[from] != NONE && stopOf[to] > stopOf[from];
        }
    }

    private static final class Coach {
        final int number;
        int station;
        int land;
        int kind;
        int weight;
        int brake;
        int lands;
        boolean slides;
        boolean isOut = false;
        int parts = 0;
        final int[] partTrain = new int[PART_LIMIT];
        final int[] partFrom = new int[PART_LIMIT];
        final int[] partTo = new int[PART_LIMIT];

        Coach(int number) {
            this.number = number;
        }

        /** Where a further PART is from. */
        int end() {
            return parts > 0 ? partTo[parts - 1] : station;
        }

        int addPart(int train, int from, int to) {
            partTrain[parts] = train;
            partFrom[parts] = from;
            partTo[parts] = to;
            parts++;
            return parts;
        }

        boolean isAllowed(Station here, Station next) {
            return (lands >> next.land & 1) == 1 && (here.gauge == next.gauge || slides);
        }

        boolean mayReplace(Coach old) {
            return !isOut && kind >= old.kind && parts > 0 && old.parts > 0
                    && partTrain[0] == old.partTrain[0] && partFrom[0] == old.partFrom[0];
        }
    }

    /** All that was told but the PERSONS. */
    private static final class Plan {
        final Station[] stations = new Station[STATION_LIMIT];
        int stationCount = 0;
        final Train[] trains = new Train[TRAIN_LIMIT];
        int trainCount = 0;
        final Coach[] coaches = new Coach[COACH_LIMIT];
        int coachCount = 0;
        /** Grows whenever something is told, so that a night knows whether it is out of date. */
        int version = 0;

        Plan() {
            for (int i = 0; i < STATION_LIMIT; i++) {
                stations[i] = new Station();
            }
            for (int i = 0; i < TRAIN_LIMIT; i++) {
                trains[i] = new Train();
            }
            for (int i = 0; i < COACH_LIMIT; i++) {
                coaches[i] = new Coach(i);
            }
        }

        int addStation(int land, int gauge) {
            int number = stationCount;
            stations[number].land = land;
            stations[number].gauge = gauge;
            stationCount = number + 1;
            version++;
            return number;
        }

        int addTrain(int station, int departure, int pulls) {
            int number = trainCount;
            Train train = trains[number];
            train.pulls = pulls;
            train.station[0] = station;
            train.departure[0] = departure;
            train.stopOf[station] = 0;
            train.stops = 1;
            trainCount = number + 1;
            version++;
            return number;
        }

        Coach nextCoach() {
            Coach coach = coaches[coachCount];
            coachCount++;
            version++;
            return coach;
        }
    }

    /** A TRAIN in a night. */
    private static final class Run {
        final int number;
        final Train train;
        int patience;
        /** The STOP where it is, or that it left last. */
        int stop;
        /** When it arrives at the next STOP; NEVER while it is at one. */
        int due;
        /** From which minute on it may leave; NEVER under way and at the last STOP. */
        int ripe;
        /** The numbers of the COACHES with it, from the head to the tail. */
        final int[] consist = new int[COACH_LIMIT];
        int length;
        /** Of the COACHES with it, together, as they were weighed last. */
        int weight;
        int brake;
        final int[] arrived = new int[STOP_LIMIT];
        final int[] left = new int[STOP_LIMIT];
        final int[] behind = new int[STOP_LIMIT * COACH_LIMIT];
        final float[] sheets = new float[STOP_LIMIT];

        Run(int number, Train train) {
            this.number = number;
            this.train = train;
        }

        void begin() {
            patience = train.patience;
            stop = 0;
            due = NEVER;
            ripe = isAtEnd() ? NEVER : train.departure[0];
            length = 0;
            Arrays.fill(arrived, NONE);
            arrived[0] = 0;
            Arrays.fill(left, NONE);
            Arrays.fill(behind, NONE);
            Arrays.fill(sheets, 0.0f);
        }

        boolean isAtEnd() {
            return stop + 1 >= train.stops;
        }

        int patienceEnd() {
            return train.departure[stop] + patience;
        }

        void couple(int coach) {
            if (length < COACH_LIMIT) {
                consist[length] = coach;
                length++;
            }
        }

        boolean isTooHeavy() {
            return weight > train.pulls
                    || 100 * (brake + ENGINE_BRAKE) < LEAST_PERCENT * (weight + ENGINE_WEIGHT);
        }

        void writeSheet() {
            float brakes = (float) (brake + ENGINE_BRAKE);
            float weights = (float) (weight + ENGINE_WEIGHT);
            sheets[stop] = weights > 0.0f ? 100.0f * (brakes / weights) : 0.0f;
            for (int i = 0; i < length; i++) {
                behind[COACH_LIMIT * stop + i] = consist[i];
            }
        }

        void goOff(int minute, int minutes) {
            left[stop] = minute;
            due = minute + minutes;
            ripe = NEVER;
        }

        void comeIn(int minute) {
            stop++;
            arrived[stop] = minute;
            due = NEVER;
            ripe = isAtEnd() ? NEVER : Math.max(train.departure[stop], minute + train.stay[stop]);
        }
    }

    /** A COACH in a night. */
    private static final class Wagon {
        final Coach coach;
        /** Where it stands, and from which minute on it is ready there; both NONE with a TRAIN. */
        int station;
        int ready;
        int done;
        int changes;

        Wagon(Coach coach) {
            this.coach = coach;
        }

        void begin() {
            station = coach.station;
            ready = 0;
            done = 0;
            changes = 0;
        }

        boolean hasToDo() {
            return !coach.isOut && done < coach.parts;
        }

        boolean isHome() {
            return coach.parts > 0 && done >= coach.parts;
        }

        boolean standsReady(int where, int minute) {
            return station == where && ready <= minute;
        }

        /** Whether a PART with the TRAIN from the STATION is not done, and can not begin there in this minute. */
        boolean isMissed(int train, int where, int minute) {
            if (coach.isOut) {
                return false;
            }
            for (int i = done; i < coach.parts; i++) {
                if (coach.partTrain[i] == train && coach.partFrom[i] == where
                        && (i != done || !standsReady(where, minute))) {
                    return true;
                }
            }
            return false;
        }

        void setOut(int where, int minute) {
            station = where;
            ready = minute + UNTIL_READY;
        }

        void come() {
            station = NONE;
            ready = NONE;
        }
    }

    /** One night, reckoned by what the plan says. */
    private static final class Night {
        final Plan plan;
        final Run[] runs = new Run[TRAIN_LIMIT];
        final Wagon[] wagons = new Wagon[COACH_LIMIT];
        /** By the land that owes and the one that is owed. */
        final int[] owed = new int[LANDS * LANDS];
        /** How many TRAINS are not at their last STOPS. */
        int abroad;
        /** The version of the plan by which it was reckoned, or NONE. */
        int version = NONE;

        Night(Plan plan) {
            this.plan = plan;
            for (int i = 0; i < TRAIN_LIMIT; i++) {
                runs[i] = new Run(i, plan.trains[i]);
            }
            for (int i = 0; i < COACH_LIMIT; i++) {
                wagons[i] = new Wagon(plan.coaches[i]);
            }
        }

        void reckonByMinutes() {
            if (version != plan.version) {
                begin();
                for (int minute = 0; minute < MINUTES && abroad > 0; minute++) {
                    passMinute(minute);
                }
                version = plan.version;
            }
        }

        void reckonByEvents() {
            if (version != plan.version) {
                begin();
                goByEvents();
                version = plan.version;
            }
        }

        /** Returns how many would be home if the TRAIN had that patience. */
        int homesWith(int train, int patience) {
            begin();
            runs[train].patience = patience;
            goByEvents();
            return countHomes();
        }

        int countHomes() {
            int homes = 0;
            for (int i = 0; i < plan.coachCount; i++) {
                if (wagons[i].isHome()) {
                    homes++;
                }
            }
            return homes;
        }

        private void begin() {
            version = NONE;
            abroad = 0;
            for (int i = 0; i < plan.trainCount; i++) {
                runs[i].begin();
                if (!runs[i].isAtEnd()) {
                    abroad++;
                }
            }
            for (int i = 0; i < plan.coachCount; i++) {
                wagons[i].begin();
            }
            Arrays.fill(owed, 0);
        }

        private void goByEvents() {
            int minute = nextEvent(NONE);
            for (int steps = 0; steps < MINUTES && minute < MINUTES; steps++) {
                passMinute(minute);
                minute = nextEvent(minute);
            }
        }

        /**
         * The first minute behind now in which a TRAIN arrives, may leave by the plan or loses its patience,
         * or a COACH becomes ready. In the minutes between no TRAIN leaves: what leaves takes COACHES away,
         * or sets them out not ready, so one that waited for some waits on until one of them is ready.
         */
        private int nextEvent(int now) {
            int next = MINUTES;
            for (int i = 0; i < plan.trainCount; i++) {
                Run run = runs[i];
                next = sooner(next, run.due, now);
                if (run.ripe != NEVER) {
                    next = sooner(next, run.ripe, now);
                    next = sooner(next, run.patienceEnd(), now);
                }
            }
            for (int i = 0; i < plan.coachCount; i++) {
                next = sooner(next, wagons[i].ready, now);
            }
            return next;
        }

        private static int sooner(int next, int minute, int now) {
            return minute > now && minute < next ? minute : next;
        }

        private void passMinute(int minute) {
            for (int i = 0; i < plan.trainCount; i++) {
                if (runs[i].due == minute) {
                    bringIn(runs[i], minute);
                }
            }
            for (int i = 0; i < plan.trainCount; i++) {
                if (runs[i].ripe <= minute && waitsNoLonger(runs[i], minute)) {
                    sendOff(runs[i], minute);
                }
            }
        }

        private void bringIn(Run run, int minute) {
            if (run.isAtEnd()) {
                return;
            }
            run.comeIn(minute);
            int here = run.train.station[run.stop];
            int kept = 0;
            for (int i = 0; i < run.length; i++) {
                int coach = run.consist[i];
                if (!isSetOut(wagons[coach], run, here, minute)) {
                    run.consist[kept] = coach;
                    kept++;
                }
            }
            run.length = kept;
            if (run.isAtEnd()) {
                abroad--;
            }
        }

        private static boolean isSetOut(Wagon wagon, Run run, int here, int minute) {
            boolean isThere = wagon.hasToDo() && wagon.coach.partTo[wagon.done] == here;
            if (!isThere && !run.isAtEnd()) {
                return false;
            }
            wagon.setOut(here, minute);
            if (isThere) {
                wagon.done++;
            }
            return true;
        }

        private boolean waitsNoLonger(Run run, int minute) {
            if (run.patienceEnd() <= minute) {
                return true;
            }
            int here = run.train.station[run.stop];
            for (int i = 0; i < plan.coachCount; i++) {
                if (wagons[i].isMissed(run.number, here, minute)) {
                    return false;
                }
            }
            return true;
        }

        private void sendOff(Run run, int minute) {
            if (run.isAtEnd()) {
                return;
            }
            int next = run.stop + 1;
            Station here = plan.stations[run.train.station[run.stop]];
            Station there = plan.stations[run.train.station[next]];
            dropForbidden(run, here, there, minute);
            int stayed = run.length;
            takeWaiting(run, here, there, minute);
            dropTooHeavy(run, minute);
            run.writeSheet();
            settle(run, stayed, there.land, run.train.kilometres[next]);
            int change = here.gauge == there.gauge ? 0 : GAUGE_CHANGE;
            run.goOff(minute, run.train.run[next] + run.train.late[next] + change);
        }

        private void dropForbidden(Run run, Station here, Station there, int minute) {
            int kept = 0;
            for (int i = 0; i < run.length; i++) {
                int coach = run.consist[i];
                if (plan.coaches[coach].isAllowed(here, there)) {
                    run.consist[kept] = coach;
                    kept++;
                } else {
                    wagons[coach].setOut(run.train.station[run.stop], minute);
                }
            }
            run.length = kept;
        }

        private void takeWaiting(Run run, Station here, Station there, int minute) {
            int station = run.train.station[run.stop];
            for (int i = 0; i < plan.coachCount; i++) {
                Wagon wagon = wagons[i];
                if (wagon.standsReady(station, minute) && wagon.hasToDo()
                        && plan.coaches[i].isAllowed(here, there) && mayTake(run, wagon, station)) {
                    run.couple(i);
                    wagon.come();
                }
            }
        }

        /** Only for a COACH that is to do a PART. */
        private boolean mayTake(Run run, Wagon wagon, int station) {
            int to = wagon.coach.partTo[wagon.done];
            if (run.train.stopOf[to] <= run.stop) {
                return false;
            }
            Run planned = runs[wagon.coach.partTrain[wagon.done]];
            if (planned.number == run.number) {
                return true;
            }
            int stopHere = planned.train.stopOf[station];
            return stopHere == NONE || planned.left[stopHere] != NONE;
        }

        private void dropTooHeavy(Run run, int minute) {
            weigh(run);
            for (int last = run.length - 1; last >= 0 && run.isTooHeavy(); last--) {
                wagons[run.consist[last]].setOut(run.train.station[run.stop], minute);
                run.length = last;
                weigh(run);
            }
        }

        private void weigh(Run run) {
            run.weight = 0;
            run.brake = 0;
            for (int i = 0; i < run.length; i++) {
                Coach coach = plan.coaches[run.consist[i]];
                run.weight += coach.weight;
                run.brake += coach.brake;
            }
        }

        /** Counts for each COACH with the TRAIN what its land owes, and whether it came here. */
        private void settle(Run run, int stayed, int land, int kilometres) {
            for (int i = 0; i < run.length; i++) {
                Wagon wagon = wagons[run.consist[i]];
                if (i >= stayed) {
                    wagon.changes++;
                }
                if (wagon.coach.land != land) {
                    owed[LANDS * wagon.coach.land + land] += AXLES * kilometres;
                }
            }
        }
    }

    private static final class Person {
        final int number;
        boolean isWoman;
        int age;
        int party;
        int coach = NONE;
        int room = NONE;
        int bed = NONE;
        int paid = 0;

        Person(int number) {
            this.number = number;
        }
    }

    /** The beds of all COACHES, and the PERSONS. */
    private static final class Beds {
        final Person[] persons = new Person[PERSON_LIMIT];
        int personCount = 0;
        /** By the index of a bed: the number of who sleeps there, or NONE. */
        final int[] sleepers = new int[COACH_LIMIT * ROOMS_OF_A_COACH * BEDS_OF_A_ROOM];
        int paid = 0;

        Beds() {
            Arrays.fill(sleepers, NONE);
            for (int i = 0; i < PERSON_LIMIT; i++) {
                persons[i] = new Person(i);
            }
        }

        static int index(int coach, int room, int bed) {
            return (coach * ROOMS_OF_A_COACH + room) * BEDS_OF_A_ROOM + bed;
        }

        Person nextPerson() {
            Person person = persons[personCount];
            personCount++;
            return person;
        }

        /** The lowest room of the COACH that has place for such a PERSON, or NONE. */
        int roomFor(int coach, boolean isWoman, int party) {
            for (int room = 0; room < ROOMS_OF_A_COACH; room++) {
                if (freeBed(coach, room, true) != NONE && mayHold(coach, room, isWoman, party, NONE)) {
                    return room;
                }
            }
            return NONE;
        }

        private int freeBed(int coach, int room, boolean isLowest) {
            int free = NONE;
            for (int bed = 0; bed < BEDS_OF_A_ROOM; bed++) {
                if (sleepers[index(coach, room, bed)] == NONE && (free == NONE || !isLowest)) {
                    free = bed;
                }
            }
            return free;
        }

        /** Whether the room may hold such a PERSON besides those there but the one who goes. */
        private boolean mayHold(int coach, int room, boolean isWoman, int party, int going) {
            boolean isOneSex = true;
            boolean isOneParty = true;
            for (int bed = 0; bed < BEDS_OF_A_ROOM; bed++) {
                int number = sleepers[index(coach, room, bed)];
                if (number != NONE && number != going) {
                    isOneSex = isOneSex && persons[number].isWoman == isWoman;
                    isOneParty = isOneParty && persons[number].party == party;
                }
            }
            return isOneSex || isOneParty;
        }

        void place(Person person, int coach, int room) {
            int bed = freeBed(coach, room, person.age >= LOW_BED_AGE);
            if (bed != NONE) {
                layDown(person, coach, room, bed);
            }
        }

        private void layDown(Person person, int coach, int room, int bed) {
            person.coach = coach;
            person.room = room;
            person.bed = bed;
            sleepers[index(coach, room, bed)] = person.number;
        }

        /** Only for a PERSON who sleeps somewhere. */
        void free(Person person) {
            sleepers[index(person.coach, person.room, person.bed)] = NONE;
            person.coach = NONE;
            person.room = NONE;
            person.bed = NONE;
        }

        void pay(Person person, int money) {
            person.paid += money;
            paid += money;
        }

        boolean mayChange(Person one, Person other) {
            return one.coach != NONE && other.coach != NONE
                    && mayHold(one.coach, one.room, other.isWoman, other.party, one.number)
                    && mayHold(other.coach, other.room, one.isWoman, one.party, other.number);
        }

        void change(Person one, Person other) {
            int coach = one.coach;
            int room = one.room;
            int bed = one.bed;
            layDown(one, other.coach, other.room, other.bed);
            layDown(other, coach, room, bed);
        }
    }
}
