/** One call of the face by its name and numbers, so that a test can keep calls in rows. */
final class Call {
    private final String name;
    private final int[] v;

    Call(String itsName, int... numbers) {
        name = itsName;
        v = numbers.clone();
    }

    int on(MainsLetters x) {
        switch (name) {
            case "loss": return x.loss(v[0], v[1], v[2], v[3]);
            case "noise": return x.noise(v[0], v[1], v[2], v[3]);
            case "margin": return x.margin(v[0]);
            case "key": return x.key(v[0], v[1]);
            case "bits": return x.bits(v[0], v[1], v[2], v[3]);
            case "speed": return x.speed(v[0], v[1], v[2]);
            case "who": return x.who(v[0], v[1]);
            case "lasts": return x.lasts(v[0], v[1], v[2]);
            case "way": return x.way(v[0], v[1], v[2], v[3]);
            case "seed": return x.seed(v[0]);
            case "write": return x.write(v[0], v[1], v[2], v[3]);
            case "unwrite": return x.unwrite(v[0]);
            case "pass": return x.pass(v[0]);
            case "ofStation": return x.ofStation(v[0], v[1]);
            case "flow": return x.flow(v[0], v[1], v[2], v[3], v[4], v[5]);
            case "disturbs": return x.disturbs(v[0]);
            case "turn": return x.turn(v[0]);
            case "many": return x.many(v[0]);
            default: throw new IllegalArgumentException("there is no call " + name);
        }
    }

    String told() {
        StringBuilder text = new StringBuilder(name).append('(');
        for (int i = 0; i < v.length; i++) text.append(i == 0 ? "" : ", ").append(v[i]);
        return text.append(')').toString();
    }
}
