/** One call, by its name and arguments, made of the class under test or of the model. */
record Call(String name, long[] args) {
    static Call of(String name, long... args) {
        return new Call(name, args);
    }

    private int arg(int i) {
        return (int) args[i];
    }

    String told() {
        StringBuilder told = new StringBuilder(name).append('(');
        for (int i = 0; i < args.length; i++) {
            told.append(i == 0 ? "" : ", ").append(args[i]);
        }
        return told.append(')').toString();
    }

    long of(OneSledgeForTwo x) {
        switch (name) {
            case "row": return x.row(arg(0), arg(1), arg(2));
            case "set": return x.set(arg(0), arg(1), args[2]);
            case "copy": return x.copy(arg(0), arg(1), arg(2), arg(3), arg(4));
            case "element": return x.element(arg(0), arg(1));
            case "show": return x.show(arg(0), arg(1));
            case "holds": return x.holds(arg(0));
            case "says": return x.says(arg(0), arg(1));
            case "rider": return x.rider(arg(0), arg(1));
            case "riderOf": return x.riderOf(arg(0), arg(1));
            case "tell": return x.tell(arg(0), arg(1), arg(2));
            case "sledges": return x.sledges(arg(0), arg(1));
            case "ask": return x.ask(arg(0), arg(1));
            case "hill": return x.hill(arg(0));
            case "fault": return x.fault();
            case "takes": return x.takes(arg(0));
            case "may": return x.may(arg(0));
            case "next": return x.next(arg(0));
            case "ahead": return x.ahead(arg(0), arg(1));
            case "by": return x.by(arg(0), arg(1));
            case "fair": return x.fair(arg(0));
            case "best": return x.best(arg(0));
            case "judge": return x.judge(arg(0), arg(1));
            case "behind": return x.behind(arg(0), arg(1), arg(2));
            case "done": return x.done(arg(0), arg(1));
            case "fits": return x.fits(arg(0));
            case "road": return x.road(arg(0), arg(1), arg(2), arg(3), arg(4));
            case "pennies": return x.pennies(arg(0));
            case "who": return x.who(arg(0));
            case "move": return x.move(arg(0));
            case "goes": return x.goes(arg(0), arg(1));
            case "winter": return x.winter(arg(0));
            case "day": return x.day(arg(0));
            case "seed": return x.seed(arg(0));
            case "act": return x.act(arg(0), arg(1), arg(2));
            case "trace": return x.trace(arg(0));
            case "image": return x.image();
            case "restore": return x.restore();
            case "status": return x.status(arg(0));
            default: throw new IllegalArgumentException(name);
        }
    }

    long of(Model x) {
        try {
            return answer(x);
        } catch (Model.Refused r) {
            x.refusals[-r.number]++;
            return name.equals("judge") ? r.number - 10 : r.number;
        }
    }

    private long answer(Model x) {
        switch (name) {
            case "row": return x.row(arg(0), arg(1), arg(2));
            case "set": return x.set(arg(0), arg(1), args[2]);
            case "copy": return x.copy(arg(0), arg(1), arg(2), arg(3), arg(4));
            case "element": return x.element(arg(0), arg(1));
            case "show": return x.show(arg(0), arg(1));
            case "holds": return x.holds(arg(0));
            case "says": return x.says(arg(0), arg(1));
            case "rider": return x.rider(arg(0), arg(1));
            case "riderOf": return x.riderOf(arg(0), arg(1));
            case "tell": return x.tell(arg(0), arg(1), arg(2));
            case "sledges": return x.sledges(arg(0), arg(1));
            case "ask": return x.ask(arg(0), arg(1));
            case "hill": return x.hill(arg(0));
            case "fault": return x.fault;
            case "takes": return x.takes(arg(0));
            case "may": return x.may(arg(0));
            case "next": return x.next(arg(0));
            case "ahead": return x.ahead(arg(0), arg(1));
            case "by": return x.by(arg(0), arg(1));
            case "fair": return x.fair(arg(0));
            case "best": return x.best(arg(0));
            case "judge": return x.judge(arg(0), arg(1));
            case "behind": return x.behind(arg(0), arg(1), arg(2));
            case "done": return x.done(arg(0), arg(1));
            case "fits": return x.fits(arg(0));
            case "road": return x.road(arg(0), arg(1), arg(2), arg(3), arg(4));
            case "pennies": return x.pennies(arg(0));
            case "who": return x.who(arg(0));
            case "move": return x.move(arg(0));
            case "goes": return x.goes(arg(0), arg(1));
            case "winter": return x.winter(arg(0));
            case "day": return x.day(arg(0));
            case "seed": return x.seed(arg(0));
            case "act": return x.act(arg(0), arg(1), arg(2));
            case "trace": return x.trace(arg(0));
            case "image": return x.image();
            case "restore": return x.restore();
            case "status": return x.status(arg(0));
            default: throw new IllegalArgumentException(name);
        }
    }
}
