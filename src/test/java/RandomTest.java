import java.util.ArrayList;
import java.util.List;

/** Runs of at most 512 calls, right and wrong ones, drawn by a fixed row of numbers and compared with the model. */
public final class RandomTest {
    private static final Check CHECK = new Check("RandomTest");
    private static final int RUNS = 400;
    /** A run asks at most seven more calls than these. */
    private static final int CALLS = 500;

    private long seed;
    private int calls;
    private final int[] met = new int[8];
    private Throughcoach x;
    private Model m;

    private int draw(int below) {
        seed = seed * 6364136223846793005L + 1442695040888963407L;
        return (int) ((seed >>> 33) % below);
    }

    /** Mostly from low to high, now and then just or far beside. */
    private int number(int low, int high) {
        switch (draw(120)) {
            case 0:
                return low - 1;
            case 1:
                return high + 1;
            case 2:
                return draw(2) == 0 ? Integer.MIN_VALUE : Integer.MAX_VALUE;
            case 3:
                return low;
            case 4:
                return high;
            default:
                return low + draw(Math.max(1, high - low + 1));
        }
    }

    private int of(List<?> told) {
        return number(0, told.size() - 1);
    }

    private int stopOf(int train) {
        return train >= 0 && train < m.trains.size() ? of(m.trains.get(train).halts) : number(0, 5);
    }

    private void due(String call, Check.Call one, Check.Call other) {
        calls++;
        CHECK.due("seed " + seed + " " + call, Check.told(other), one);
    }

    private void tellStation() {
        int land = number(0, 5);
        int gauge = draw(4) == 0 ? number(0, 1) : 0;
        due("station", () -> x.station(land, gauge), () -> m.station(land, gauge));
    }

    private void tellTrain() {
        int station = of(m.stations);
        int departure = draw(10) == 0 ? number(0, 1439) : number(0, 240);
        int pulls = draw(3) == 0 ? number(0, 200) : number(0, 1000);
        due("train", () -> x.train(station, departure, pulls), () -> m.train(station, departure, pulls));
    }

    private void tellStop() {
        int train = of(m.trains);
        int station = of(m.stations);
        int run = draw(6) == 0 ? number(1, 300) : number(1, 60);
        int kilometres = number(1, 500);
        int stay = draw(2) == 0 ? number(0, 60) : draw(3) * 5;
        due("stop", () -> x.stop(train, station, run, kilometres, stay),
                () -> m.stop(train, station, run, kilometres, stay));
    }

    private void tellPatience() {
        int train = of(m.trains);
        int minutes = number(0, 180);
        due("patience", () -> x.patience(train, minutes), () -> m.patience(train, minutes));
    }

    private void tellLate() {
        int train = of(m.trains);
        int stop = stopOf(train);
        int minutes = draw(4) == 0 ? number(0, 300) : number(0, 60);
        due("late", () -> x.late(train, stop, minutes), () -> m.late(train, stop, minutes));
    }

    private void tellCoach() {
        int station = of(m.stations);
        int land = number(0, 5);
        int kind = number(0, 2);
        int weight = number(20, 60);
        int brake = draw(3) == 0 ? number(0, 80) : number(20, 60);
        int lands = draw(2) == 0 ? 63 : number(0, 63);
        boolean slides = draw(2) == 0;
        due("coach", () -> x.coach(station, land, kind, weight, brake, lands, slides),
                () -> m.coach(station, land, kind, weight, brake, lands, slides));
    }

    private void tellPart() {
        int coach = of(m.coaches);
        int train = of(m.trains);
        int to = of(m.stations);
        due("part", () -> x.part(coach, train, to), () -> m.part(coach, train, to));
    }

    /** A PART that is told rightly, if the COACH can have one. */
    private void tellRightPart() {
        List<int[]> right = new ArrayList<>();
        if (m.coaches.isEmpty()) {
            return;
        }
        int coach = draw(m.coaches.size());
        Model.Car car = m.coaches.get(coach);
        int from = car.parts.isEmpty() ? car.station : car.parts.get(car.parts.size() - 1)[2];
        for (int train = 0; train < m.trains.size(); train++) {
            int first = m.trains.get(train).indexOf(from);
            for (int stop = first + 1; first >= 0 && stop < m.trains.get(train).halts.size(); stop++) {
                right.add(new int[] {train, m.trains.get(train).halts.get(stop).station});
            }
        }
        if (!right.isEmpty()) {
            int[] part = right.get(draw(right.size()));
            due("part", () -> x.part(coach, part[0], part[1]), () -> m.part(coach, part[0], part[1]));
        }
    }

    private void takeOut() {
        int coach = of(m.coaches);
        due("takeOut", () -> x.takeOut(coach), () -> m.takeOut(coach));
    }

    private void book() {
        int coach = of(m.coaches);
        boolean isWoman = draw(2) == 0;
        int age = draw(4) == 0 ? 59 + draw(2) : number(0, 99);
        int party = draw(3) == 0 ? number(0, 9) : draw(2);
        due("book", () -> x.book(coach, isWoman, age, party), () -> m.book(coach, isWoman, age, party));
    }

    private void leave() {
        int person = of(m.persons);
        due("leave", () -> x.leave(person), () -> m.leave(person));
    }

    private void swap() {
        int person = of(m.persons);
        int other = of(m.persons);
        due("swap", () -> {
            x.swap(person, other);
            return 0;
        }, () -> m.swap(person, other));
    }

    private void askTrain() {
        int train = of(m.trains);
        int stop = stopOf(train);
        int place = number(0, 9);
        due("arrives", () -> x.arrives(train, stop), () -> m.arrives(train, stop));
        due("leaves", () -> x.leaves(train, stop), () -> m.leaves(train, stop));
        due("leavesAnew", () -> x.leavesAnew(train, stop), () -> m.leaves(train, stop));
        due("behind", () -> x.behind(train, stop, place), () -> m.behind(train, stop, place));
        due("sheet", () -> x.sheet(train, stop), () -> m.sheet(train, stop));
    }

    private void askNight() {
        int coach = of(m.coaches);
        int what = number(0, 5);
        int land = number(0, 5);
        int other = number(0, 5);
        due("coachOf", () -> x.coachOf(coach, what), () -> m.coachOf(coach, what));
        due("owes", () -> x.owes(land, other), () -> m.owes(land, other));
        due("homes", () -> x.homes(), () -> m.homes());
    }

    private void askBest() {
        int train = of(m.trains);
        due("best", () -> x.best(train), () -> m.best(train));
    }

    private void askPersons() {
        int person = of(m.persons);
        int what = number(0, 3);
        int coach = of(m.coaches);
        int room = number(0, 5);
        int bed = number(0, 2);
        boolean isWoman = draw(2) == 0;
        int party = number(0, 9);
        due("personOf", () -> x.personOf(person, what), () -> m.personOf(person, what));
        due("sleeper", () -> x.sleeper(coach, room, bed), () -> m.sleeper(coach, room, bed));
        due("holds", () -> x.holds(coach, isWoman, party), () -> m.holds(coach, isWoman, party));
        due("paid", () -> x.paid(), () -> m.paid());
    }

    private void change() {
        switch (draw(13)) {
            case 0:
                tellPatience();
                break;
            case 1:
                tellLate();
                break;
            case 2:
                tellPart();
                break;
            case 3:
                tellRightPart();
                break;
            case 4:
                tellStop();
                break;
            case 5:
                tellCoach();
                break;
            case 6:
                leave();
                break;
            case 7:
                swap();
                break;
            case 8:
                if (draw(8) == 0) {
                    takeOut();
                }
                break;
            case 9:
                if (draw(6) == 0) {
                    tellTrain();
                } else if (draw(6) == 0) {
                    tellStation();
                }
                break;
            default:
                book();
        }
    }

    private void ask() {
        switch (draw(12)) {
            case 0:
                askBest();
                break;
            case 1:
            case 2:
            case 3:
            case 4:
                askTrain();
                break;
            case 5:
            case 6:
                askPersons();
                break;
            default:
                askNight();
        }
    }

    private void begin() {
        for (int i = 3 + draw(5); i > 0; i--) {
            tellStation();
        }
        for (int i = 1 + draw(6); i > 0; i--) {
            tellTrain();
        }
        for (int i = 4 + draw(25); i > 0; i--) {
            tellStop();
        }
        for (int i = 1 + draw(10); i > 0; i--) {
            tellCoach();
        }
        for (int i = 5 + draw(30); i > 0; i--) {
            tellRightPart();
        }
        for (int i = draw(6); i > 0; i--) {
            tellPatience();
            tellLate();
        }
    }

    private void run(int number) {
        seed = 7919L * number + 17;
        x = new Throughcoach();
        m = new Model();
        calls = 0;
        if (number % 16 != 0) {
            begin();
        }
        while (calls < CALLS) {
            change();
            change();
            ask();
        }
        for (int i = 0; i < met.length; i++) {
            met[i] += m.met[i];
        }
    }

    public static void main(String[] args) {
        RandomTest test = new RandomTest();
        for (int number = 0; number < RUNS; number++) {
            test.run(number);
        }
        for (int i = 0; i < test.met.length; i++) {
            int kind = i;
            CHECK.due("the runs meet all that can happen, " + kind, true, () -> test.met[kind] > 100);
        }
        CHECK.end();
    }
}
