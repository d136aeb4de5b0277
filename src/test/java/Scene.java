/** A run of calls that can be made again on as many new objects as a test needs. */
interface Scene {
    void play(PatronHall hall);

    default Scene then(Scene next) {
        return hall -> {
            play(hall);
            next.play(hall);
        };
    }

    /** The same, but whatever is thrown is left alone. */
    default Scene attempted() {
        return hall -> {
            try {
                play(hall);
            } catch (RuntimeException refused) {
                return;
            }
        };
    }

    default PatronHall hall() {
        PatronHall hall = new PatronHall();
        play(hall);
        return hall;
    }
}
