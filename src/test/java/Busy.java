import java.util.ArrayList;
import java.util.List;

/**
 * An object on which much has happened, made alike each time, and a look at all that can be seen of an object.
 * STATION 0 is WAITING (STAGE 1), 1 is SENDING, the others have no LETTER; 3 has a KEY of its own, 2 hears 5 but is
 * not heard by it, 4 and 5 do not hear one another; one LETTER ARRIVED, one was DROPPED, two COLLIDED.
 */
final class Busy {
    private Busy() {
    }

    static MainsLetters object() {
        MainsLetters x = new MainsLetters();
        x.margin(2);
        x.seed(Due.seedThatDraws(8, 0));
        x.write(2, 3, 1, 7);
        x.key(3, 2);
        x.pass(1);
        x.seed(Due.seedThatDraws(8, 0));
        x.write(0, 1, 0, 40);
        x.pass(1);
        x.seed(Due.seedThatDraws(8, 0, 8, 0, 16, 9, 16, 0));
        x.write(0, 2, 0, 100);
        x.write(1, 2, 0, 400);
        x.pass(11);
        x.loss(0, 1, 3, 17);
        x.noise(4, 6, 1, 44);
        for (int tone = 0; tone < 8; tone++) {
            x.loss(4, 5, tone, 60);
            x.loss(2, 5, tone, 45);
            for (int half = 0; half < 2; half++) x.noise(2, tone, half, 0);
        }
        return x;
    }

    /** All that is asked changes what it looks at: the object is not used behind it. 340 calls. */
    static void alike(Due due, String name, MainsLetters x, MainsLetters y) {
        for (Call call : looks()) due.is(name + ", then " + call.told(), call.on(x), call.on(y));
    }

    private static List<Call> looks() {
        List<Call> all = new ArrayList<>();
        for (int what = 0; what <= 10; what++) all.add(new Call("many", what));
        for (int s = 0; s < 6; s++) {
            for (int what = 0; what <= 12; what++) all.add(new Call("ofStation", s, what));
        }
        all.add(new Call("pass", 3));
        for (int s = 0; s < 6; s++) {
            for (int what = 6; what <= 9; what++) all.add(new Call("ofStation", s, what));
        }
        all.add(new Call("seed", 0));
        all.add(new Call("margin", 0));
        for (int a = 0; a < 6; a++) {
            all.add(new Call("key", a, 0));
            for (int tone = 0; tone < 8; tone++) {
                for (int b = a + 1; b < 6; b++) all.add(new Call("loss", a, b, tone, 0));
                for (int half = 0; half < 2; half++) all.add(new Call("noise", a, tone, half, 0));
            }
        }
        return all;
    }
}
