/** One call of the face, kept with its arguments, so that a run of calls can be played again. */
record Call(String name, int... args) {
    /** A boolean counts 1 or 0. */
    int on(Face face) {
        switch (name) {
            case "plug": return number(face.plug(args[0], args[1], args[2]));
            case "unplug": return number(face.unplug(args[0]));
            case "enumerate": return number(face.enumerate(args[0]));
            case "noise": return number(face.noise(args[0], args[1], args[2]));
            case "tick": return face.tick(args[0]);
            case "sheet": return number(face.sheet(args[0], args[1]));
            case "ask": return face.ask(args[0], args[1]);
            case "sensor": return number(face.sensor(args[0], args[1]));
            case "enumeration": return face.enumeration(args[0], args[1]);
            case "node": return face.node(args[0], args[1]);
            case "sense": return face.sense(args[0], args[1]);
            case "block": return face.block(args[0], args[1]);
            case "request": return face.request(args[0], args[1]);
            case "answer": return face.answer(args[0], args[1]);
            case "event": return face.event(args[0], args[1]);
            case "wire": return face.wire(args[0], args[1]);
            default: throw new IllegalArgumentException("no call " + name);
        }
    }

    private static int number(boolean b) {
        return b ? 1 : 0;
    }

    @Override
    public String toString() {
        StringBuilder text = new StringBuilder(name).append('(');
        for (int i = 0; i < args.length; i++) {
            text.append(i == 0 ? "" : ", ").append(args[i]);
        }
        return text.append(')').toString();
    }
}
