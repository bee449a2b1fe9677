import java.util.ArrayList;
import java.util.List;

/**
 * All that can be seen of a house, as lines "call = answer". It is read in parts, each on a house of its own, as an
 * object has 512 calls; reading may change the house, so it is not used afterwards.
 */
final class Seen {
    static final int PARTS = 4;

    private final Run run;
    private final List<String> lines = new ArrayList<>();

    private Seen(Run run) {
        this.run = run;
    }

    static List<String> part(Run run, int part) {
        Seen seen = new Seen(run);
        switch (part) {
            case 0:
                seen.casesAndSheets();
                break;
            case 1:
                seen.peopleAndNotices();
                break;
            case 2:
                seen.theDay();
                break;
            default:
                seen.chancesAndWhatComesNext();
        }
        return seen.lines;
    }

    private long look(String call) {
        long got = run.ask(call);
        lines.add(call + " = " + got);
        return got;
    }

    private void casesAndSheets() {
        for (int what = 0; what <= 6; what++) {
            look("count(" + what + ")");
        }
        long cases = run.ask("count(0)");
        long people = run.ask("count(1)");
        for (int c = 0; c < cases; c++) {
            for (int what = 0; what <= 5; what++) {
                look("told(" + c + ", " + what + ")");
            }
            for (int w = 0; w < people; w++) {
                look("called(" + w + ", " + c + ")");
            }
        }
        for (int court = 0; court < 3; court++) {
            for (int place = 0; place <= 6; place++) {
                look("inList(" + court + ", " + place + ")");
            }
        }
        for (int which = 0; which < 5; which++) {
            look("rule(" + which + ", 1)");
        }
        for (int s = 0; s < 2; s++) {
            for (int place = 0; place <= 12; place++) {
                look("mark(" + s + ", " + place + ", 0)");
            }
        }
    }

    private void peopleAndNotices() {
        long people = run.ask("count(1)");
        for (int w = 0; w < people; w++) {
            for (int kind = 0; kind <= 4; kind++) {
                look("isOf(" + w + ", " + kind + ")");
            }
            for (int other = 0; other < w; other++) {
                look("apart(" + w + ", " + other + ", 0)");
            }
        }
        long notices = run.ask("count(2)");
        for (int i = 0; i < notices; i++) {
            for (int what = 0; what <= 2; what++) {
                look("notice(" + i + ", " + what + ")");
            }
        }
        for (int w = 0; w < people; w++) {
            look("read(" + w + ")");
        }
        // one who is needed anew is called at their way
        look("needs(0, 0)");
        look("needs(0, " + ((1 << people) - 1) + ")");
        for (int w = 0; w < people; w++) {
            look("called(" + w + ", 0)");
        }
    }

    private void theDay() {
        long cases = run.ask("count(0)");
        long people = run.ask("count(1)");
        for (int c = 0; c < cases; c++) {
            for (int what = 0; what <= 2; what++) {
                look("begins(" + c + ", " + what + ")");
            }
            for (int w = 0; w < people; w++) {
                look("waited(" + w + ", " + c + ")");
            }
        }
        for (int court = 0; court < 3; court++) {
            look("idle(" + court + ", 0)");
            look("idle(" + court + ", 1)");
        }
        look("waits()");
        for (int w = 0; w < people; w++) {
            look("pay(" + w + ")");
            look("room(" + w + ")");
        }
    }

    private void chancesAndWhatComesNext() {
        long cases = run.ask("count(0)");
        for (int c = 0; c < cases; c++) {
            for (int quarter = 0; quarter <= 48; quarter += 12) {
                look("weight(" + c + ", " + quarter + ")");
                look("cost(" + c + ", " + quarter + ")");
            }
            look("best(" + c + ")");
        }
        look("take(0)");
        look("take(1)");
        for (int court = 0; court < 3; court++) {
            look("newCase(" + court + ", 1, 0)");
        }
        look("witness(0, 0)");
        for (int c = 0; c < cases; c++) {
            look("plan(" + c + ")");
            look("move(" + c + ", 2)");
        }
        look("count(2)");
    }
}
