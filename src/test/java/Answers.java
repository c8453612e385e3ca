import java.util.function.IntSupplier;

/** What a camp answers: to all that can be asked of it, and then, as days go by, of what it holds and does not tell. */
final class Answers {
    private final GlacierCamp camp;
    private final StringBuilder told = new StringBuilder();

    private Answers(GlacierCamp camp) {
        this.camp = camp;
    }

    /** Some hundred calls on a camp, some of which change it. */
    static String all(GlacierCamp camp) {
        Answers answers = new Answers(camp);
        answers.ask();
        answers.passDays();
        answers.readTape();
        return answers.told.toString();
    }

    private void tell(Object answer) {
        told.append(answer).append(' ');
    }

    private void ask() {
        tell(camp.digest());
        tell(camp.errorAt());
        tell(camp.mean());
        for (int band = 0; band < camp.count(1); band++) {
            tell(camp.melt(band, 60));
        }
        for (int stake = 0; stake < camp.count(2); stake++) {
            tell(camp.until(stake));
        }
        for (int team = 0; team < camp.count(5); team++) {
            int asked = team;
            tell(camp.safe(team, true));
            tell(camp.safe(team, false));
            tell(answer(() -> camp.advise(asked, 40)));
        }
        for (int what = 7; what <= 12; what++) {
            tell(camp.foresee(60, what));
        }
    }

    private static String answer(IntSupplier call) {
        try {
            return String.valueOf(call.getAsInt());
        } catch (RuntimeException e) {
            return e.getClass().getName();
        }
    }

    /** Shows for how long crevasses stay known, and what is ordered. */
    private void passDays() {
        for (int i = 0; i < 10; i++) {
            tell(camp.pass(1));
            tell(camp.digest());
        }
        for (int day = 0; day < 8; day++) {
            tell(camp.setWarm(day, 10));
        }
    }

    private void readTape() {
        tell(camp.teach());
        tell(camp.errorAt());
        tell(camp.digest());
    }
}
