/** What many tests tell first. */
final class Scene {
    private Scene() {
    }

    /** STATIONS of the lands 0, 1 and so on, and of the gauge 0. */
    static Throughcoach stations(int count) {
        Throughcoach x = new Throughcoach();
        for (int i = 0; i < count; i++) {
            x.station(i % 6, 0);
        }
        return x;
    }

    /** A TRAIN that pulls 1000 tonnes by STATIONS that are 10 minutes and 10 kilometres apart; it stays 0 minutes. */
    static int train(Throughcoach x, int departure, int... stations) {
        int train = x.train(stations[0], departure, 1000);
        for (int i = 1; i < stations.length; i++) {
            x.stop(train, stations[i], 10, 10, 0);
        }
        return train;
    }

    /** A COACH of the land 0, with good brakes, that may go everywhere. */
    static int coach(Throughcoach x, int station) {
        return x.coach(station, 0, Throughcoach.BEDS, 20, 20, 63, true);
    }

    /** A COACH with one PART. */
    static int coach(Throughcoach x, int station, int train, int to) {
        int coach = coach(x, station);
        x.part(coach, train, to);
        return coach;
    }

    /** The COACHES with which a TRAIN leaves, from the head to the tail. */
    static String consist(Throughcoach x, int train, int stop) {
        StringBuilder text = new StringBuilder();
        for (int place = 0; place < 10; place++) {
            text.append(x.behind(train, stop, place)).append(' ');
        }
        return text.toString().replace("-1 ", "").trim();
    }

    /** All that is told of a COACH as the night is over. */
    static String coachOf(Throughcoach x, int coach) {
        StringBuilder text = new StringBuilder();
        for (int what = 0; what < 6; what++) {
            text.append(what == 0 ? "" : " ").append(x.coachOf(coach, what));
        }
        return text.toString();
    }

    /** The COACH, room and bed of a PERSON. */
    static String where(Throughcoach x, int person) {
        return x.personOf(person, 0) + " " + x.personOf(person, 1) + " " + x.personOf(person, 2);
    }
}
